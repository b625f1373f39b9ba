theorem dX0_lookRound_10 : decode cX0_lookRound 10 = .ok (.aload_n 2, 1) := by decide +kernel
theorem dX0_lookRound_11 : decode cX0_lookRound 11 = .ok (.getfield 43, 3) := by decide +kernel
theorem dX0_lookRound_14 : decode cX0_lookRound 14 = .ok (.iload_n 3, 1) := by decide +kernel
theorem dX0_lookRound_15 : decode cX0_lookRound 15 = .ok (.iaload, 1) := by decide +kernel
theorem dX0_lookRound_16 : decode cX0_lookRound 16 = .ok (.aload_n 0, 1) := by decide +kernel
theorem dX0_lookRound_17 : decode cX0_lookRound 17 = .ok (.getfield 15, 3) := by decide +kernel
theorem dX0_lookRound_20 : decode cX0_lookRound 20 = .ok (.if_icmp .le 18, 3) := by decide +kernel
theorem dX0_lookRound_23 : decode cX0_lookRound 23 = .ok (.aload_n 0, 1) := by decide +kernel
theorem dX0_lookRound_24 : decode cX0_lookRound 24 = .ok (.aload_n 2, 1) := by decide +kernel
theorem dX0_lookRound_25 : decode cX0_lookRound 25 = .ok (.getfield 43, 3) := by decide +kernel
theorem dX0_lookRound_28 : decode cX0_lookRound 28 = .ok (.iload_n 3, 1) := by decide +kernel
theorem dX0_lookRound_29 : decode cX0_lookRound 29 = .ok (.iaload, 1) := by decide +kernel
theorem dX0_lookRound_30 : decode cX0_lookRound 30 = .ok (.putfield 15, 3) := by decide +kernel
theorem dX0_lookRound_33 : decode cX0_lookRound 33 = .ok (.aload_n 0, 1) := by decide +kernel
theorem dX0_lookRound_34 : decode cX0_lookRound 34 = .ok (.iload_n 3, 1) := by decide +kernel
theorem dX0_lookRound_35 : decode cX0_lookRound 35 = .ok (.putfield 18, 3) := by decide +kernel
theorem dX0_lookRound_38 : decode cX0_lookRound 38 = .ok (.iinc 3 1, 3) := by decide +kernel
theorem dX0_lookRound_41 : decode cX0_lookRound 41 = .ok (.goto (-39), 3) := by decide +kernel
theorem dX0_lookRound_44 : decode cX0_lookRound 44 = .ok (.return_, 1) := by decide +kernel
theorem dX1_init_0 : decode cX1_init 0 = .ok (.aload_n 0, 1) := by decide +kernel
theorem dX1_init_1 : decode cX1_init 1 = .ok (.invokespecial 1, 3) := by decide +kernel
theorem dX1_init_4 : decode cX1_init 4 = .ok (.aload_n 0, 1) := by decide +kernel
theorem dX1_init_5 : decode cX1_init 5 = .ok (.iconst 0, 1) := by decide +kernel
theorem dX1_init_6 : decode cX1_init 6 = .ok (.putfield 7, 3) := by decide +kernel
theorem dX1_init_9 : decode cX1_init 9 = .ok (.return_, 1) := by decide +kernel
theorem dX1_next_0 : decode cX1_next 0 = .ok (.aload_n 0, 1) := by decide +kernel
theorem dX1_next_1 : decode cX1_next 1 = .ok (.aload_n 0, 1) := by decide +kernel
theorem dX1_next_2 : decode cX1_next 2 = .ok (.getfield 7, 3) := by decide +kernel
theorem dX1_next_5 : decode cX1_next 5 = .ok (.i2l, 1) := by decide +kernel
theorem dX1_next_6 : decode cX1_next 6 = .ok (.ldc2_w 13, 3) := by decide +kernel
theorem dX1_next_9 : decode cX1_next 9 = .ok (.lmul, 1) := by decide +kernel
theorem dX1_next_10 : decode cX1_next 10 = .ok (.ldc2_w 15, 3) := by decide +kernel
theorem dX1_next_13 : decode cX1_next 13 = .ok (.ladd, 1) := by decide +kernel
theorem dX1_next_14 : decode cX1_next 14 = .ok (.ldc2_w 17, 3) := by decide +kernel
theorem dX1_next_17 : decode cX1_next 17 = .ok (.lrem, 1) := by decide +kernel
theorem dX1_next_18 : decode cX1_next 18 = .ok (.l2i, 1) := by decide +kernel
theorem dX1_next_19 : decode cX1_next 19 = .ok (.putfield 7, 3) := by decide +kernel
theorem dX1_next_22 : decode cX1_next 22 = .ok (.iload_n 1, 1) := by decide +kernel
theorem dX1_next_23 : decode cX1_next 23 = .ok (.iconst 1, 1) := by decide +kernel
theorem dX1_next_24 : decode cX1_next 24 = .ok (.if_icmp .ge 7, 3) := by decide +kernel
theorem dX1_next_27 : decode cX1_next 27 = .ok (.iconst 0, 1) := by decide +kernel
theorem dX1_next_28 : decode cX1_next 28 = .ok (.goto 12, 3) := by decide +kernel
theorem dX1_next_31 : decode cX1_next 31 = .ok (.aload_n 0, 1) := by decide +kernel
theorem dX1_next_32 : decode cX1_next 32 = .ok (.getfield 7, 3) := by decide +kernel
theorem dX1_next_35 : decode cX1_next 35 = .ok (.ldc 19, 2) := by decide +kernel
theorem dX1_next_37 : decode cX1_next 37 = .ok (.idiv, 1) := by decide +kernel
theorem dX1_next_38 : decode cX1_next 38 = .ok (.iload_n 1, 1) := by decide +kernel
theorem dX1_next_39 : decode cX1_next 39 = .ok (.irem, 1) := by decide +kernel
theorem dX1_next_40 : decode cX1_next 40 = .ok (.ireturn, 1) := by decide +kernel
set_option maxRecDepth 20000 in
theorem ggX2_init_X9_init : GoodIn wsX2_init wsX9_init := goodIn_r _ [12, 13, 2, 3, 14, 15, 16, 17, 18, 19, 20, 21, 22] (by decide +kernel) (by decide +kernel)
set_option maxRecDepth 20000 in
theorem gX2_init_X9_init : GoodIn wsX2_init (wsX9_init) := ggX2_init_X9_init
theorem dX2_init_0 : decode cX2_init 0 = .ok (.aload_n 0, 1) := by decide +kernel
theorem dX2_init_1 : decode cX2_init 1 = .ok (.invokespecial 1, 3) := by decide +kernel
theorem dX2_init_4 : decode cX2_init 4 = .ok (.aload_n 0, 1) := by decide +kernel
theorem dX2_init_5 : decode cX2_init 5 = .ok (.new 7, 3) := by decide +kernel
theorem dX2_init_8 : decode cX2_init 8 = .ok (.dup, 1) := by decide +kernel
theorem dX2_init_9 : decode cX2_init 9 = .ok (.bipush 30, 2) := by decide +kernel
theorem dX2_init_11 : decode cX2_init 11 = .ok (.invokespecial 11, 3) := by decide +kernel
theorem dX2_init_14 : decode cX2_init 14 = .ok (.putfield 14, 3) := by decide +kernel
theorem dX2_init_17 : decode cX2_init 17 = .ok (.aload_n 0, 1) := by decide +kernel
theorem dX2_init_18 : decode cX2_init 18 = .ok (.iconst 0, 1) := by decide +kernel
theorem dX2_init_19 : decode cX2_init 19 = .ok (.putfield 18, 3) := by decide +kernel
theorem dX2_init_22 : decode cX2_init 22 = .ok (.aload_n 0, 1) := by decide +kernel
theorem dX2_init_23 : decode cX2_init 23 = .ok (.iconst 0, 1) := by decide +kernel
theorem dX2_init_24 : decode cX2_init 24 = .ok (.putfield 22, 3) := by decide +kernel
theorem dX2_init_27 : decode cX2_init 27 = .ok (.return_, 1) := by decide +kernel
theorem dX2_clear_0 : decode cX2_clear 0 = .ok (.aload_n 0, 1) := by decide +kernel
theorem dX2_clear_1 : decode cX2_clear 1 = .ok (.iconst 0, 1) := by decide +kernel
theorem dX2_clear_2 : decode cX2_clear 2 = .ok (.putfield 18, 3) := by decide +kernel
theorem dX2_clear_5 : decode cX2_clear 5 = .ok (.aload_n 0, 1) := by decide +kernel
theorem dX2_clear_6 : decode cX2_clear 6 = .ok (.iconst 0, 1) := by decide +kernel
theorem dX2_clear_7 : decode cX2_clear 7 = .ok (.putfield 22, 3) := by decide +kernel
theorem dX2_clear_10 : decode cX2_clear 10 = .ok (.return_, 1) := by decide +kernel
set_option maxRecDepth 20000 in
theorem ggX2_remember_X9_put : GoodIn wsX2_remember wsX9_put := goodIn_r _ [12, 13, 14, 15, 16, 17, 18, 19, 20, 21, 22, 23, 27, 28, 29, 30, 31, 32, 33] (by decide +kernel) (by decide +kernel)
set_option maxRecDepth 20000 in
theorem gX2_remember_X9_put : GoodIn wsX2_remember (wsV RX2 25 RX9 yX9_put wsX9_put) := goodIn_app (goodIn_of _ (by decide +kernel)) ggX2_remember_X9_put
theorem dX2_remember_0 : decode cX2_remember 0 = .ok (.aload_n 0, 1) := by decide +kernel
theorem dX2_remember_1 : decode cX2_remember 1 = .ok (.getfield 14, 3) := by decide +kernel
theorem dX2_remember_4 : decode cX2_remember 4 = .ok (.aload_n 0, 1) := by decide +kernel
theorem dX2_remember_5 : decode cX2_remember 5 = .ok (.getfield 18, 3) := by decide +kernel
theorem dX2_remember_8 : decode cX2_remember 8 = .ok (.aload_n 1, 1) := by decide +kernel
theorem dX2_remember_9 : decode cX2_remember 9 = .ok (.invokevirtual 25, 3) := by decide +kernel
theorem dX2_remember_12 : decode cX2_remember 12 = .ok (.aload_n 0, 1) := by decide +kernel
theorem dX2_remember_13 : decode cX2_remember 13 = .ok (.aload_n 0, 1) := by decide +kernel
theorem dX2_remember_14 : decode cX2_remember 14 = .ok (.getfield 18, 3) := by decide +kernel
theorem dX2_remember_17 : decode cX2_remember 17 = .ok (.iconst 1, 1) := by decide +kernel
theorem dX2_remember_18 : decode cX2_remember 18 = .ok (.iadd, 1) := by decide +kernel
theorem dX2_remember_19 : decode cX2_remember 19 = .ok (.bipush 30, 2) := by decide +kernel
theorem dX2_remember_21 : decode cX2_remember 21 = .ok (.irem, 1) := by decide +kernel
theorem dX2_remember_22 : decode cX2_remember 22 = .ok (.putfield 18, 3) := by decide +kernel
theorem dX2_remember_25 : decode cX2_remember 25 = .ok (.aload_n 0, 1) := by decide +kernel
theorem dX2_remember_26 : decode cX2_remember 26 = .ok (.bipush 30, 2) := by decide +kernel
theorem dX2_remember_28 : decode cX2_remember 28 = .ok (.aload_n 0, 1) := by decide +kernel
theorem dX2_remember_29 : decode cX2_remember 29 = .ok (.getfield 22, 3) := by decide +kernel
theorem dX2_remember_32 : decode cX2_remember 32 = .ok (.iconst 1, 1) := by decide +kernel
theorem dX2_remember_33 : decode cX2_remember 33 = .ok (.iadd, 1) := by decide +kernel
theorem dX2_remember_34 : decode cX2_remember 34 = .ok (.invokestatic 29, 3) := by decide +kernel
theorem dX2_remember_37 : decode cX2_remember 37 = .ok (.putfield 22, 3) := by decide +kernel
theorem dX2_remember_40 : decode cX2_remember 40 = .ok (.return_, 1) := by decide +kernel
set_option maxRecDepth 20000 in
theorem ggX2_restore_X9_get : GoodIn wsX2_restore wsX9_get := goodIn_r _ [8, 9, 10, 11, 12, 13, 14, 15, 16, 17, 18, 19, 23, 24, 25, 26, 27, 28, 29] (by decide +kernel) (by decide +kernel)
set_option maxRecDepth 20000 in
theorem gX2_restore_X9_get : GoodIn wsX2_restore (wsV RX2 35 RX9 yX9_get wsX9_get) := goodIn_app (goodIn_of _ (by decide +kernel)) ggX2_restore_X9_get
theorem dX2_restore_0 : decode cX2_restore 0 = .ok (.iload_n 1, 1) := by decide +kernel
theorem dX2_restore_1 : decode cX2_restore 1 = .ok (.iconst 1, 1) := by decide +kernel
theorem dX2_restore_2 : decode cX2_restore 2 = .ok (.if_icmp .lt 11, 3) := by decide +kernel
theorem dX2_restore_5 : decode cX2_restore 5 = .ok (.iload_n 1, 1) := by decide +kernel
theorem dX2_restore_6 : decode cX2_restore 6 = .ok (.aload_n 0, 1) := by decide +kernel
theorem dX2_restore_7 : decode cX2_restore 7 = .ok (.getfield 22, 3) := by decide +kernel
theorem dX2_restore_10 : decode cX2_restore 10 = .ok (.if_icmp .le 5, 3) := by decide +kernel
theorem dX2_restore_13 : decode cX2_restore 13 = .ok (.iconst 0, 1) := by decide +kernel
theorem dX2_restore_14 : decode cX2_restore 14 = .ok (.ireturn, 1) := by decide +kernel
theorem dX2_restore_15 : decode cX2_restore 15 = .ok (.aload_n 0, 1) := by decide +kernel
theorem dX2_restore_16 : decode cX2_restore 16 = .ok (.aload_n 0, 1) := by decide +kernel
theorem dX2_restore_17 : decode cX2_restore 17 = .ok (.getfield 18, 3) := by decide +kernel
theorem dX2_restore_20 : decode cX2_restore 20 = .ok (.iload_n 1, 1) := by decide +kernel
theorem dX2_restore_21 : decode cX2_restore 21 = .ok (.isub, 1) := by decide +kernel
theorem dX2_restore_22 : decode cX2_restore 22 = .ok (.bipush 30, 2) := by decide +kernel
theorem dX2_restore_24 : decode cX2_restore 24 = .ok (.iadd, 1) := by decide +kernel
theorem dX2_restore_25 : decode cX2_restore 25 = .ok (.bipush 30, 2) := by decide +kernel
theorem dX2_restore_27 : decode cX2_restore 27 = .ok (.irem, 1) := by decide +kernel
theorem dX2_restore_28 : decode cX2_restore 28 = .ok (.putfield 18, 3) := by decide +kernel
theorem dX2_restore_31 : decode cX2_restore 31 = .ok (.aload_n 0, 1) := by decide +kernel
theorem dX2_restore_32 : decode cX2_restore 32 = .ok (.dup, 1) := by decide +kernel
theorem dX2_restore_33 : decode cX2_restore 33 = .ok (.getfield 22, 3) := by decide +kernel
theorem dX2_restore_36 : decode cX2_restore 36 = .ok (.iload_n 1, 1) := by decide +kernel
theorem dX2_restore_37 : decode cX2_restore 37 = .ok (.isub, 1) := by decide +kernel
theorem dX2_restore_38 : decode cX2_restore 38 = .ok (.putfield 22, 3) := by decide +kernel
theorem dX2_restore_41 : decode cX2_restore 41 = .ok (.aload_n 0, 1) := by decide +kernel
theorem dX2_restore_42 : decode cX2_restore 42 = .ok (.getfield 14, 3) := by decide +kernel
theorem dX2_restore_45 : decode cX2_restore 45 = .ok (.aload_n 0, 1) := by decide +kernel
theorem dX2_restore_46 : decode cX2_restore 46 = .ok (.getfield 18, 3) := by decide +kernel
theorem dX2_restore_49 : decode cX2_restore 49 = .ok (.aload_n 2, 1) := by decide +kernel
theorem dX2_restore_50 : decode cX2_restore 50 = .ok (.invokevirtual 35, 3) := by decide +kernel
theorem dX2_restore_53 : decode cX2_restore 53 = .ok (.iconst 1, 1) := by decide +kernel
theorem dX2_restore_54 : decode cX2_restore 54 = .ok (.ireturn, 1) := by decide +kernel
set_option maxRecDepth 20000 in
theorem ggX3_init_X9_init : GoodIn wsX3_init wsX9_init := goodIn_r _ [13, 14, 2, 3, 15, 16, 17, 18, 19, 8, 20, 21, 22] (by decide +kernel) (by decide +kernel)
set_option maxRecDepth 20000 in
theorem gX3_init_X9_init : GoodIn wsX3_init (wsX9_init) := ggX3_init_X9_init
theorem dX3_init_0 : decode cX3_init 0 = .ok (.aload_n 0, 1) := by decide +kernel
theorem dX3_init_1 : decode cX3_init 1 = .ok (.invokespecial 1, 3) := by decide +kernel
theorem dX3_init_4 : decode cX3_init 4 = .ok (.aload_n 0, 1) := by decide +kernel
theorem dX3_init_5 : decode cX3_init 5 = .ok (.new 7, 3) := by decide +kernel
theorem dX3_init_8 : decode cX3_init 8 = .ok (.dup, 1) := by decide +kernel
theorem dX3_init_9 : decode cX3_init 9 = .ok (.iconst 2, 1) := by decide +kernel
theorem dX3_init_10 : decode cX3_init 10 = .ok (.invokespecial 11, 3) := by decide +kernel
theorem dX3_init_13 : decode cX3_init 13 = .ok (.putfield 14, 3) := by decide +kernel
theorem dX3_init_16 : decode cX3_init 16 = .ok (.aload_n 0, 1) := by decide +kernel
theorem dX3_init_17 : decode cX3_init 17 = .ok (.iconst 2, 1) := by decide +kernel
theorem dX3_init_18 : decode cX3_init 18 = .ok (.newarray .int, 2) := by decide +kernel
theorem dX3_init_20 : decode cX3_init 20 = .ok (.putfield 18, 3) := by decide +kernel
theorem dX3_init_23 : decode cX3_init 23 = .ok (.aload_n 0, 1) := by decide +kernel
theorem dX3_init_24 : decode cX3_init 24 = .ok (.iconst 0, 1) := by decide +kernel
theorem dX3_init_25 : decode cX3_init 25 = .ok (.putfield 22, 3) := by decide +kernel
theorem dX3_init_28 : decode cX3_init 28 = .ok (.return_, 1) := by decide +kernel
theorem dX3_clear_0 : decode cX3_clear 0 = .ok (.aload_n 0, 1) := by decide +kernel
theorem dX3_clear_1 : decode cX3_clear 1 = .ok (.iconst 0, 1) := by decide +kernel
theorem dX3_clear_2 : decode cX3_clear 2 = .ok (.putfield 22, 3) := by decide +kernel
theorem dX3_clear_5 : decode cX3_clear 5 = .ok (.return_, 1) := by decide +kernel
theorem dX3_has_0 : decode cX3_has 0 = .ok (.iload_n 1, 1) := by decide +kernel
theorem dX3_has_1 : decode cX3_has 1 = .ok (.ifCond .lt 12, 3) := by decide +kernel
theorem dX3_has_4 : decode cX3_has 4 = .ok (.iload_n 1, 1) := by decide +kernel
theorem dX3_has_5 : decode cX3_has 5 = .ok (.iconst 2, 1) := by decide +kernel
theorem dX3_has_6 : decode cX3_has 6 = .ok (.if_icmp .ge 7, 3) := by decide +kernel
theorem dX3_has_9 : decode cX3_has 9 = .ok (.iconst 1, 1) := by decide +kernel
theorem dX3_has_10 : decode cX3_has 10 = .ok (.goto 4, 3) := by decide +kernel
theorem dX3_has_13 : decode cX3_has 13 = .ok (.iconst 0, 1) := by decide +kernel
theorem dX3_has_14 : decode cX3_has 14 = .ok (.ireturn, 1) := by decide +kernel
set_option maxRecDepth 20000 in
theorem ggX3_store_X3_has : GoodIn wsX3_store wsX3_has := goodIn_r _ [9] (by decide +kernel) (by decide +kernel)
set_option maxRecDepth 20000 in
theorem gX3_store_X3_has : GoodIn wsX3_store (wsV RX3 26 RX3 yX3_has wsX3_has) := goodIn_app (goodIn_of _ (by decide +kernel)) ggX3_store_X3_has
set_option maxRecDepth 20000 in
theorem ggX3_store_X9_put : GoodIn wsX3_store wsX9_put := goodIn_r _ [14, 15, 16, 17, 18, 19, 20, 21, 22, 23, 24, 25, 30, 31, 32, 33, 34, 35, 36] (by decide +kernel) (by decide +kernel)
set_option maxRecDepth 20000 in
theorem gX3_store_X9_put : GoodIn wsX3_store (wsV RX3 30 RX9 yX9_put wsX9_put) := goodIn_app (goodIn_of _ (by decide +kernel)) ggX3_store_X9_put
theorem dX3_store_0 : decode cX3_store 0 = .ok (.aload_n 0, 1) := by decide +kernel
theorem dX3_store_1 : decode cX3_store 1 = .ok (.iload_n 1, 1) := by decide +kernel
theorem dX3_store_2 : decode cX3_store 2 = .ok (.invokevirtual 26, 3) := by decide +kernel
theorem dX3_store_5 : decode cX3_store 5 = .ok (.ifCond .eq 34, 3) := by decide +kernel
theorem dX3_store_8 : decode cX3_store 8 = .ok (.aload_n 0, 1) := by decide +kernel
theorem dX3_store_9 : decode cX3_store 9 = .ok (.getfield 14, 3) := by decide +kernel
theorem dX3_store_12 : decode cX3_store 12 = .ok (.iload_n 1, 1) := by decide +kernel
theorem dX3_store_13 : decode cX3_store 13 = .ok (.aload_n 2, 1) := by decide +kernel
theorem dX3_store_14 : decode cX3_store 14 = .ok (.invokevirtual 30, 3) := by decide +kernel
theorem dX3_store_17 : decode cX3_store 17 = .ok (.aload_n 0, 1) := by decide +kernel
theorem dX3_store_18 : decode cX3_store 18 = .ok (.getfield 18, 3) := by decide +kernel
theorem dX3_store_21 : decode cX3_store 21 = .ok (.iload_n 1, 1) := by decide +kernel
theorem dX3_store_22 : decode cX3_store 22 = .ok (.aload_n 3, 1) := by decide +kernel
theorem dX3_store_23 : decode cX3_store 23 = .ok (.getfield 34, 3) := by decide +kernel
theorem dX3_store_26 : decode cX3_store 26 = .ok (.iastore, 1) := by decide +kernel
theorem dX3_store_27 : decode cX3_store 27 = .ok (.aload_n 0, 1) := by decide +kernel
theorem dX3_store_28 : decode cX3_store 28 = .ok (.dup, 1) := by decide +kernel
theorem dX3_store_29 : decode cX3_store 29 = .ok (.getfield 22, 3) := by decide +kernel
theorem dX3_store_32 : decode cX3_store 32 = .ok (.iconst 1, 1) := by decide +kernel
theorem dX3_store_33 : decode cX3_store 33 = .ok (.iload_n 1, 1) := by decide +kernel
theorem dX3_store_34 : decode cX3_store 34 = .ok (.ishl, 1) := by decide +kernel
theorem dX3_store_35 : decode cX3_store 35 = .ok (.ior, 1) := by decide +kernel
theorem dX3_store_36 : decode cX3_store 36 = .ok (.putfield 22, 3) := by decide +kernel
theorem dX3_store_39 : decode cX3_store 39 = .ok (.return_, 1) := by decide +kernel
set_option maxRecDepth 20000 in
theorem ggX3_fetch_X3_has : GoodIn wsX3_fetch wsX3_has := goodIn_r _ [9] (by decide +kernel) (by decide +kernel)
set_option maxRecDepth 20000 in
theorem gX3_fetch_X3_has : GoodIn wsX3_fetch (wsV RX3 26 RX3 yX3_has wsX3_has) := goodIn_app (goodIn_of _ (by decide +kernel)) ggX3_fetch_X3_has
set_option maxRecDepth 20000 in
theorem ggX3_fetch_X9_get : GoodIn wsX3_fetch wsX9_get := goodIn_r _ [14, 15, 16, 17, 18, 19, 20, 21, 22, 23, 24, 25, 30, 31, 32, 33, 34, 35, 36] (by decide +kernel) (by decide +kernel)
set_option maxRecDepth 20000 in
theorem gX3_fetch_X9_get : GoodIn wsX3_fetch (wsV RX3 39 RX9 yX9_get wsX9_get) := goodIn_app (goodIn_of _ (by decide +kernel)) ggX3_fetch_X9_get
theorem dX3_fetch_0 : decode cX3_fetch 0 = .ok (.aload_n 0, 1) := by decide +kernel
theorem dX3_fetch_1 : decode cX3_fetch 1 = .ok (.iload_n 1, 1) := by decide +kernel
theorem dX3_fetch_2 : decode cX3_fetch 2 = .ok (.invokevirtual 26, 3) := by decide +kernel
theorem dX3_fetch_5 : decode cX3_fetch 5 = .ok (.ifCond .eq 14, 3) := by decide +kernel
theorem dX3_fetch_8 : decode cX3_fetch 8 = .ok (.aload_n 0, 1) := by decide +kernel
theorem dX3_fetch_9 : decode cX3_fetch 9 = .ok (.getfield 22, 3) := by decide +kernel
theorem dX3_fetch_12 : decode cX3_fetch 12 = .ok (.iload_n 1, 1) := by decide +kernel
theorem dX3_fetch_13 : decode cX3_fetch 13 = .ok (.ishr, 1) := by decide +kernel
theorem dX3_fetch_14 : decode cX3_fetch 14 = .ok (.iconst 1, 1) := by decide +kernel
theorem dX3_fetch_15 : decode cX3_fetch 15 = .ok (.iand, 1) := by decide +kernel
theorem dX3_fetch_16 : decode cX3_fetch 16 = .ok (.ifCond .ne 5, 3) := by decide +kernel
theorem dX3_fetch_19 : decode cX3_fetch 19 = .ok (.iconst 0, 1) := by decide +kernel
theorem dX3_fetch_20 : decode cX3_fetch 20 = .ok (.ireturn, 1) := by decide +kernel
theorem dX3_fetch_21 : decode cX3_fetch 21 = .ok (.aload_n 0, 1) := by decide +kernel
theorem dX3_fetch_22 : decode cX3_fetch 22 = .ok (.getfield 14, 3) := by decide +kernel
theorem dX3_fetch_25 : decode cX3_fetch 25 = .ok (.iload_n 1, 1) := by decide +kernel
theorem dX3_fetch_26 : decode cX3_fetch 26 = .ok (.aload_n 2, 1) := by decide +kernel
theorem dX3_fetch_27 : decode cX3_fetch 27 = .ok (.invokevirtual 39, 3) := by decide +kernel
theorem dX3_fetch_30 : decode cX3_fetch 30 = .ok (.aload_n 3, 1) := by decide +kernel
theorem dX3_fetch_31 : decode cX3_fetch 31 = .ok (.aload_n 0, 1) := by decide +kernel
theorem dX3_fetch_32 : decode cX3_fetch 32 = .ok (.getfield 18, 3) := by decide +kernel
theorem dX3_fetch_35 : decode cX3_fetch 35 = .ok (.iload_n 1, 1) := by decide +kernel
theorem dX3_fetch_36 : decode cX3_fetch 36 = .ok (.iaload, 1) := by decide +kernel
theorem dX3_fetch_37 : decode cX3_fetch 37 = .ok (.putfield 34, 3) := by decide +kernel
theorem dX3_fetch_40 : decode cX3_fetch 40 = .ok (.iconst 1, 1) := by decide +kernel
theorem dX3_fetch_41 : decode cX3_fetch 41 = .ok (.ireturn, 1) := by decide +kernel
theorem dX4_init_0 : decode cX4_init 0 = .ok (.aload_n 0, 1) := by decide +kernel
theorem dX4_init_1 : decode cX4_init 1 = .ok (.invokespecial 3, 3) := by decide +kernel
theorem dX4_init_4 : decode cX4_init 4 = .ok (.aload_n 0, 1) := by decide +kernel
theorem dX4_init_5 : decode cX4_init 5 = .ok (.bipush 8, 2) := by decide +kernel
theorem dX4_init_7 : decode cX4_init 7 = .ok (.newarray .int, 2) := by decide +kernel
theorem dX4_init_9 : decode cX4_init 9 = .ok (.putfield 9, 3) := by decide +kernel
theorem dX4_init_12 : decode cX4_init 12 = .ok (.return_, 1) := by decide +kernel
set_option maxRecDepth 20000 in
theorem ggX4_hold_X6_has : GoodIn wsX4_hold wsX6_has := goodIn_r _ [11, 12, 22, 23, 24, 25, 26, 27, 28, 29] (by decide +kernel) (by decide +kernel)
set_option maxRecDepth 20000 in
theorem gX4_hold_X6_has : GoodIn wsX4_hold (wsV RX4 35 RX6 yX6_has wsX6_has) := goodIn_app (goodIn_of _ (by decide +kernel)) ggX4_hold_X6_has
set_option maxRecDepth 20000 in
theorem ggX4_hold_X4_settle : GoodIn wsX4_hold wsX4_settle := goodIn_r _ [17, 2, 18, 19, 20, 21, 30] (by decide +kernel) (by decide +kernel)
set_option maxRecDepth 20000 in
theorem gX4_hold_X4_settle : GoodIn wsX4_hold (wsV RX4 39 RX4 yX4_settle wsX4_settle) := goodIn_app (goodIn_of _ (by decide +kernel)) ggX4_hold_X4_settle
theorem dX4_hold_0 : decode cX4_hold 0 = .ok (.iconst 0, 1) := by decide +kernel
theorem dX4_hold_1 : decode cX4_hold 1 = .ok (.istore 4, 2) := by decide +kernel
theorem dX4_hold_3 : decode cX4_hold 3 = .ok (.iload 4, 2) := by decide +kernel
theorem dX4_hold_5 : decode cX4_hold 5 = .ok (.aload_n 1, 1) := by decide +kernel
theorem dX4_hold_6 : decode cX4_hold 6 = .ok (.getfield 15, 3) := by decide +kernel
theorem dX4_hold_9 : decode cX4_hold 9 = .ok (.if_icmp .ge 41, 3) := by decide +kernel
theorem dX4_hold_12 : decode cX4_hold 12 = .ok (.aload_n 0, 1) := by decide +kernel
theorem dX4_hold_13 : decode cX4_hold 13 = .ok (.getfield 9, 3) := by decide +kernel
theorem dX4_hold_16 : decode cX4_hold 16 = .ok (.iload 4, 2) := by decide +kernel
theorem dX4_hold_18 : decode cX4_hold 18 = .ok (.aload_n 2, 1) := by decide +kernel
theorem dX4_hold_19 : decode cX4_hold 19 = .ok (.getfield 21, 3) := by decide +kernel
theorem dX4_hold_22 : decode cX4_hold 22 = .ok (.iload 4, 2) := by decide +kernel
theorem dX4_hold_24 : decode cX4_hold 24 = .ok (.iaload, 1) := by decide +kernel
theorem dX4_hold_25 : decode cX4_hold 25 = .ok (.aload_n 1, 1) := by decide +kernel
theorem dX4_hold_26 : decode cX4_hold 26 = .ok (.getfield 26, 3) := by decide +kernel
theorem dX4_hold_29 : decode cX4_hold 29 = .ok (.iload 4, 2) := by decide +kernel
theorem dX4_hold_31 : decode cX4_hold 31 = .ok (.iaload, 1) := by decide +kernel
theorem dX4_hold_32 : decode cX4_hold 32 = .ok (.iload_n 3, 1) := by decide +kernel
theorem dX4_hold_33 : decode cX4_hold 33 = .ok (.imul, 1) := by decide +kernel
theorem dX4_hold_34 : decode cX4_hold 34 = .ok (.iadd, 1) := by decide +kernel
theorem dX4_hold_35 : decode cX4_hold 35 = .ok (.aload_n 1, 1) := by decide +kernel
theorem dX4_hold_36 : decode cX4_hold 36 = .ok (.getfield 29, 3) := by decide +kernel
theorem dX4_hold_39 : decode cX4_hold 39 = .ok (.iload 4, 2) := by decide +kernel
theorem dX4_hold_41 : decode cX4_hold 41 = .ok (.iaload, 1) := by decide +kernel
theorem dX4_hold_42 : decode cX4_hold 42 = .ok (.isub, 1) := by decide +kernel
theorem dX4_hold_43 : decode cX4_hold 43 = .ok (.iastore, 1) := by decide +kernel
theorem dX4_hold_44 : decode cX4_hold 44 = .ok (.iinc 4 1, 3) := by decide +kernel
theorem dX4_hold_47 : decode cX4_hold 47 = .ok (.goto (-44), 3) := by decide +kernel
theorem dX4_hold_50 : decode cX4_hold 50 = .ok (.iconst 0, 1) := by decide +kernel
theorem dX4_hold_51 : decode cX4_hold 51 = .ok (.istore 4, 2) := by decide +kernel
theorem dX4_hold_53 : decode cX4_hold 53 = .ok (.aload_n 1, 1) := by decide +kernel
theorem dX4_hold_54 : decode cX4_hold 54 = .ok (.getfield 15, 3) := by decide +kernel
theorem dX4_hold_57 : decode cX4_hold 57 = .ok (.iconst 1, 1) := by decide +kernel
theorem dX4_hold_58 : decode cX4_hold 58 = .ok (.isub, 1) := by decide +kernel
theorem dX4_hold_59 : decode cX4_hold 59 = .ok (.istore 5, 2) := by decide +kernel
theorem dX4_hold_61 : decode cX4_hold 61 = .ok (.iload 5, 2) := by decide +kernel
theorem dX4_hold_63 : decode cX4_hold 63 = .ok (.ifCond .lt 61, 3) := by decide +kernel
theorem dX4_hold_66 : decode cX4_hold 66 = .ok (.aload_n 1, 1) := by decide +kernel
theorem dX4_hold_67 : decode cX4_hold 67 = .ok (.getfield 32, 3) := by decide +kernel
theorem dX4_hold_70 : decode cX4_hold 70 = .ok (.iload 5, 2) := by decide +kernel
theorem dX4_hold_72 : decode cX4_hold 72 = .ok (.iaload, 1) := by decide +kernel
theorem dX4_hold_73 : decode cX4_hold 73 = .ok (.istore 6, 2) := by decide +kernel
theorem dX4_hold_75 : decode cX4_hold 75 = .ok (.aload_n 1, 1) := by decide +kernel
theorem dX4_hold_76 : decode cX4_hold 76 = .ok (.iload 6, 2) := by decide +kernel
theorem dX4_hold_78 : decode cX4_hold 78 = .ok (.invokevirtual 35, 3) := by decide +kernel
theorem dX4_hold_81 : decode cX4_hold 81 = .ok (.ifCond .eq 37, 3) := by decide +kernel
theorem dX4_hold_84 : decode cX4_hold 84 = .ok (.iload 4, 2) := by decide +kernel
theorem dX4_hold_86 : decode cX4_hold 86 = .ok (.aload_n 0, 1) := by decide +kernel
theorem dX4_hold_87 : decode cX4_hold 87 = .ok (.getfield 9, 3) := by decide +kernel
theorem dX4_hold_90 : decode cX4_hold 90 = .ok (.iload 5, 2) := by decide +kernel
theorem dX4_hold_92 : decode cX4_hold 92 = .ok (.iaload, 1) := by decide +kernel
theorem dX4_hold_93 : decode cX4_hold 93 = .ok (.ifCond .le 14, 3) := by decide +kernel
theorem dX4_hold_96 : decode cX4_hold 96 = .ok (.aload_n 0, 1) := by decide +kernel
theorem dX4_hold_97 : decode cX4_hold 97 = .ok (.iload 5, 2) := by decide +kernel
theorem dX4_hold_99 : decode cX4_hold 99 = .ok (.iload 6, 2) := by decide +kernel
theorem dX4_hold_101 : decode cX4_hold 101 = .ok (.invokevirtual 39, 3) := by decide +kernel
theorem dX4_hold_104 : decode cX4_hold 104 = .ok (.goto 11, 3) := by decide +kernel
theorem dX4_hold_107 : decode cX4_hold 107 = .ok (.aload_n 0, 1) := by decide +kernel
theorem dX4_hold_108 : decode cX4_hold 108 = .ok (.iload 6, 2) := by decide +kernel
theorem dX4_hold_110 : decode cX4_hold 110 = .ok (.iload 5, 2) := by decide +kernel
theorem dX4_hold_112 : decode cX4_hold 112 = .ok (.invokevirtual 39, 3) := by decide +kernel
theorem dX4_hold_115 : decode cX4_hold 115 = .ok (.iadd, 1) := by decide +kernel
theorem dX4_hold_116 : decode cX4_hold 116 = .ok (.istore 4, 2) := by decide +kernel
theorem dX4_hold_118 : decode cX4_hold 118 = .ok (.iinc 5 (-1), 3) := by decide +kernel
theorem dX4_hold_121 : decode cX4_hold 121 = .ok (.goto (-60), 3) := by decide +kernel
theorem dX4_hold_124 : decode cX4_hold 124 = .ok (.iload 4, 2) := by decide +kernel
theorem dX4_hold_126 : decode cX4_hold 126 = .ok (.ireturn, 1) := by decide +kernel
theorem dX4_settle_0 : decode cX4_settle 0 = .ok (.aload_n 0, 1) := by decide +kernel
theorem dX4_settle_1 : decode cX4_settle 1 = .ok (.getfield 9, 3) := by decide +kernel
theorem dX4_settle_4 : decode cX4_settle 4 = .ok (.iload_n 1, 1) := by decide +kernel
theorem dX4_settle_5 : decode cX4_settle 5 = .ok (.iaload, 1) := by decide +kernel
theorem dX4_settle_6 : decode cX4_settle 6 = .ok (.aload_n 0, 1) := by decide +kernel
theorem dX4_settle_7 : decode cX4_settle 7 = .ok (.getfield 9, 3) := by decide +kernel
theorem dX4_settle_10 : decode cX4_settle 10 = .ok (.iload_n 2, 1) := by decide +kernel
theorem dX4_settle_11 : decode cX4_settle 11 = .ok (.iaload, 1) := by decide +kernel
theorem dX4_settle_12 : decode cX4_settle 12 = .ok (.ineg, 1) := by decide +kernel
theorem dX4_settle_13 : decode cX4_settle 13 = .ok (.invokestatic 43, 3) := by decide +kernel
theorem dX4_settle_16 : decode cX4_settle 16 = .ok (.istore_n 3, 1) := by decide +kernel
theorem dX4_settle_17 : decode cX4_settle 17 = .ok (.iload_n 3, 1) := by decide +kernel
theorem dX4_settle_18 : decode cX4_settle 18 = .ok (.ifCond .gt 5, 3) := by decide +kernel
theorem dX4_settle_21 : decode cX4_settle 21 = .ok (.iconst 0, 1) := by decide +kernel
theorem dX4_settle_22 : decode cX4_settle 22 = .ok (.ireturn, 1) := by decide +kernel
theorem dX4_settle_23 : decode cX4_settle 23 = .ok (.aload_n 0, 1) := by decide +kernel
theorem dX4_settle_24 : decode cX4_settle 24 = .ok (.getfield 9, 3) := by decide +kernel
theorem dX4_settle_27 : decode cX4_settle 27 = .ok (.iload_n 1, 1) := by decide +kernel
theorem dX4_settle_28 : decode cX4_settle 28 = .ok (.dup2, 1) := by decide +kernel
theorem dX4_settle_29 : decode cX4_settle 29 = .ok (.iaload, 1) := by decide +kernel
theorem dX4_settle_30 : decode cX4_settle 30 = .ok (.iload_n 3, 1) := by decide +kernel
theorem dX4_settle_31 : decode cX4_settle 31 = .ok (.isub, 1) := by decide +kernel
theorem dX4_settle_32 : decode cX4_settle 32 = .ok (.iastore, 1) := by decide +kernel
theorem dX4_settle_33 : decode cX4_settle 33 = .ok (.aload_n 0, 1) := by decide +kernel
theorem dX4_settle_34 : decode cX4_settle 34 = .ok (.getfield 9, 3) := by decide +kernel
theorem dX4_settle_37 : decode cX4_settle 37 = .ok (.iload_n 2, 1) := by decide +kernel
theorem dX4_settle_38 : decode cX4_settle 38 = .ok (.dup2, 1) := by decide +kernel
theorem dX4_settle_39 : decode cX4_settle 39 = .ok (.iaload, 1) := by decide +kernel
theorem dX4_settle_40 : decode cX4_settle 40 = .ok (.iload_n 3, 1) := by decide +kernel
theorem dX4_settle_41 : decode cX4_settle 41 = .ok (.iadd, 1) := by decide +kernel
theorem dX4_settle_42 : decode cX4_settle 42 = .ok (.iastore, 1) := by decide +kernel
theorem dX4_settle_43 : decode cX4_settle 43 = .ok (.iload_n 3, 1) := by decide +kernel
theorem dX4_settle_44 : decode cX4_settle 44 = .ok (.ireturn, 1) := by decide +kernel
theorem dX5_init_0 : decode cX5_init 0 = .ok (.aload_n 0, 1) := by decide +kernel
theorem dX5_init_1 : decode cX5_init 1 = .ok (.invokespecial 3, 3) := by decide +kernel
theorem dX5_init_4 : decode cX5_init 4 = .ok (.aload_n 0, 1) := by decide +kernel
theorem dX5_init_5 : decode cX5_init 5 = .ok (.bipush 6, 2) := by decide +kernel
theorem dX5_init_7 : decode cX5_init 7 = .ok (.newarray .int, 2) := by decide +kernel
theorem dX5_init_9 : decode cX5_init 9 = .ok (.putfield 11, 3) := by decide +kernel
theorem dX5_init_12 : decode cX5_init 12 = .ok (.aload_n 0, 1) := by decide +kernel
theorem dX5_init_13 : decode cX5_init 13 = .ok (.bipush 6, 2) := by decide +kernel
theorem dX5_init_15 : decode cX5_init 15 = .ok (.newarray .boolean, 2) := by decide +kernel
theorem dX5_init_17 : decode cX5_init 17 = .ok (.putfield 15, 3) := by decide +kernel
theorem dX5_init_20 : decode cX5_init 20 = .ok (.aload_n 0, 1) := by decide +kernel
theorem dX5_init_21 : decode cX5_init 21 = .ok (.bipush 20, 2) := by decide +kernel
theorem dX5_init_23 : decode cX5_init 23 = .ok (.newarray .int, 2) := by decide +kernel
theorem dX5_init_25 : decode cX5_init 25 = .ok (.putfield 19, 3) := by decide +kernel
theorem dX5_init_28 : decode cX5_init 28 = .ok (.aload_n 0, 1) := by decide +kernel
theorem dX5_init_29 : decode cX5_init 29 = .ok (.bipush 20, 2) := by decide +kernel
theorem dX5_init_31 : decode cX5_init 31 = .ok (.newarray .int, 2) := by decide +kernel
theorem dX5_init_33 : decode cX5_init 33 = .ok (.putfield 22, 3) := by decide +kernel
theorem dX5_init_36 : decode cX5_init 36 = .ok (.aload_n 0, 1) := by decide +kernel
theorem dX5_init_37 : decode cX5_init 37 = .ok (.iconst 0, 1) := by decide +kernel
theorem dX5_init_38 : decode cX5_init 38 = .ok (.putfield 25, 3) := by decide +kernel
theorem dX5_init_41 : decode cX5_init 41 = .ok (.aload_n 0, 1) := by decide +kernel
theorem dX5_init_42 : decode cX5_init 42 = .ok (.iconst 0, 1) := by decide +kernel
theorem dX5_init_43 : decode cX5_init 43 = .ok (.putfield 29, 3) := by decide +kernel
theorem dX5_init_46 : decode cX5_init 46 = .ok (.return_, 1) := by decide +kernel
theorem dX5_clear_0 : decode cX5_clear 0 = .ok (.aload_n 0, 1) := by decide +kernel
theorem dX5_clear_1 : decode cX5_clear 1 = .ok (.iconst 0, 1) := by decide +kernel
theorem dX5_clear_2 : decode cX5_clear 2 = .ok (.putfield 25, 3) := by decide +kernel
theorem dX5_clear_5 : decode cX5_clear 5 = .ok (.aload_n 0, 1) := by decide +kernel
theorem dX5_clear_6 : decode cX5_clear 6 = .ok (.iconst 0, 1) := by decide +kernel
theorem dX5_clear_7 : decode cX5_clear 7 = .ok (.putfield 29, 3) := by decide +kernel
theorem dX5_clear_10 : decode cX5_clear 10 = .ok (.return_, 1) := by decide +kernel
theorem dX5_addSeen_0 : decode cX5_addSeen 0 = .ok (.aload_n 0, 1) := by decide +kernel
theorem dX5_addSeen_1 : decode cX5_addSeen 1 = .ok (.getfield 25, 3) := by decide +kernel
theorem dX5_addSeen_4 : decode cX5_addSeen 4 = .ok (.bipush 6, 2) := by decide +kernel
theorem dX5_addSeen_6 : decode cX5_addSeen 6 = .ok (.if_icmp .lt 5, 3) := by decide +kernel
theorem dX5_addSeen_9 : decode cX5_addSeen 9 = .ok (.iconst 0, 1) := by decide +kernel
theorem dX5_addSeen_10 : decode cX5_addSeen 10 = .ok (.ireturn, 1) := by decide +kernel
theorem dX5_addSeen_11 : decode cX5_addSeen 11 = .ok (.aload_n 0, 1) := by decide +kernel
theorem dX5_addSeen_12 : decode cX5_addSeen 12 = .ok (.getfield 11, 3) := by decide +kernel
theorem dX5_addSeen_15 : decode cX5_addSeen 15 = .ok (.aload_n 0, 1) := by decide +kernel
theorem dX5_addSeen_16 : decode cX5_addSeen 16 = .ok (.getfield 25, 3) := by decide +kernel
theorem dX5_addSeen_19 : decode cX5_addSeen 19 = .ok (.iload_n 1, 1) := by decide +kernel
theorem dX5_addSeen_20 : decode cX5_addSeen 20 = .ok (.iastore, 1) := by decide +kernel
theorem dX5_addSeen_21 : decode cX5_addSeen 21 = .ok (.aload_n 0, 1) := by decide +kernel
theorem dX5_addSeen_22 : decode cX5_addSeen 22 = .ok (.getfield 15, 3) := by decide +kernel
theorem dX5_addSeen_25 : decode cX5_addSeen 25 = .ok (.aload_n 0, 1) := by decide +kernel
theorem dX5_addSeen_26 : decode cX5_addSeen 26 = .ok (.getfield 25, 3) := by decide +kernel
theorem dX5_addSeen_29 : decode cX5_addSeen 29 = .ok (.iload_n 2, 1) := by decide +kernel
theorem dX5_addSeen_30 : decode cX5_addSeen 30 = .ok (.bastore, 1) := by decide +kernel
theorem dX5_addSeen_31 : decode cX5_addSeen 31 = .ok (.aload_n 0, 1) := by decide +kernel
theorem dX5_addSeen_32 : decode cX5_addSeen 32 = .ok (.dup, 1) := by decide +kernel
theorem dX5_addSeen_33 : decode cX5_addSeen 33 = .ok (.getfield 25, 3) := by decide +kernel
theorem dX5_addSeen_36 : decode cX5_addSeen 36 = .ok (.iconst 1, 1) := by decide +kernel
theorem dX5_addSeen_37 : decode cX5_addSeen 37 = .ok (.iadd, 1) := by decide +kernel
theorem dX5_addSeen_38 : decode cX5_addSeen 38 = .ok (.putfield 25, 3) := by decide +kernel
theorem dX5_addSeen_41 : decode cX5_addSeen 41 = .ok (.iconst 1, 1) := by decide +kernel
theorem dX5_addSeen_42 : decode cX5_addSeen 42 = .ok (.ireturn, 1) := by decide +kernel
theorem dX5_addEntry_0 : decode cX5_addEntry 0 = .ok (.aload_n 0, 1) := by decide +kernel
theorem dX5_addEntry_1 : decode cX5_addEntry 1 = .ok (.getfield 29, 3) := by decide +kernel
theorem dX5_addEntry_4 : decode cX5_addEntry 4 = .ok (.bipush 20, 2) := by decide +kernel
theorem dX5_addEntry_6 : decode cX5_addEntry 6 = .ok (.if_icmp .lt 5, 3) := by decide +kernel
theorem dX5_addEntry_9 : decode cX5_addEntry 9 = .ok (.iconst 0, 1) := by decide +kernel
theorem dX5_addEntry_10 : decode cX5_addEntry 10 = .ok (.ireturn, 1) := by decide +kernel
theorem dX5_addEntry_11 : decode cX5_addEntry 11 = .ok (.aload_n 0, 1) := by decide +kernel
theorem dX5_addEntry_12 : decode cX5_addEntry 12 = .ok (.getfield 19, 3) := by decide +kernel
theorem dX5_addEntry_15 : decode cX5_addEntry 15 = .ok (.aload_n 0, 1) := by decide +kernel
theorem dX5_addEntry_16 : decode cX5_addEntry 16 = .ok (.getfield 29, 3) := by decide +kernel
theorem dX5_addEntry_19 : decode cX5_addEntry 19 = .ok (.iload_n 1, 1) := by decide +kernel
theorem dX5_addEntry_20 : decode cX5_addEntry 20 = .ok (.iastore, 1) := by decide +kernel
theorem dX5_addEntry_21 : decode cX5_addEntry 21 = .ok (.aload_n 0, 1) := by decide +kernel
theorem dX5_addEntry_22 : decode cX5_addEntry 22 = .ok (.getfield 22, 3) := by decide +kernel
theorem dX5_addEntry_25 : decode cX5_addEntry 25 = .ok (.aload_n 0, 1) := by decide +kernel
theorem dX5_addEntry_26 : decode cX5_addEntry 26 = .ok (.getfield 29, 3) := by decide +kernel
theorem dX5_addEntry_29 : decode cX5_addEntry 29 = .ok (.iload_n 2, 1) := by decide +kernel
theorem dX5_addEntry_30 : decode cX5_addEntry 30 = .ok (.iastore, 1) := by decide +kernel
theorem dX5_addEntry_31 : decode cX5_addEntry 31 = .ok (.aload_n 0, 1) := by decide +kernel
theorem dX5_addEntry_32 : decode cX5_addEntry 32 = .ok (.dup, 1) := by decide +kernel
theorem dX5_addEntry_33 : decode cX5_addEntry 33 = .ok (.getfield 29, 3) := by decide +kernel
theorem dX5_addEntry_36 : decode cX5_addEntry 36 = .ok (.iconst 1, 1) := by decide +kernel
theorem dX5_addEntry_37 : decode cX5_addEntry 37 = .ok (.iadd, 1) := by decide +kernel
theorem dX5_addEntry_38 : decode cX5_addEntry 38 = .ok (.putfield 29, 3) := by decide +kernel
theorem dX5_addEntry_41 : decode cX5_addEntry 41 = .ok (.iconst 1, 1) := by decide +kernel
theorem dX5_addEntry_42 : decode cX5_addEntry 42 = .ok (.ireturn, 1) := by decide +kernel
set_option maxRecDepth 20000 in
theorem ggX5_fitting_X6_has : GoodIn wsX5_fitting wsX6_has := goodIn_r _ [10, 11, 12, 13, 14, 15, 16, 17, 18, 19] (by decide +kernel) (by decide +kernel)
set_option maxRecDepth 20000 in
theorem gX5_fitting_X6_has : GoodIn wsX5_fitting (wsV RX5 37 RX6 yX6_has wsX6_has) := goodIn_app (goodIn_of _ (by decide +kernel)) ggX5_fitting_X6_has
theorem dX5_fitting_0 : decode cX5_fitting 0 = .ok (.iconst 1, 1) := by decide +kernel
theorem dX5_fitting_1 : decode cX5_fitting 1 = .ok (.aload_n 1, 1) := by decide +kernel
theorem dX5_fitting_2 : decode cX5_fitting 2 = .ok (.getfield 32, 3) := by decide +kernel
theorem dX5_fitting_5 : decode cX5_fitting 5 = .ok (.ishl, 1) := by decide +kernel
theorem dX5_fitting_6 : decode cX5_fitting 6 = .ok (.iconst 1, 1) := by decide +kernel
theorem dX5_fitting_7 : decode cX5_fitting 7 = .ok (.isub, 1) := by decide +kernel
theorem dX5_fitting_8 : decode cX5_fitting 8 = .ok (.istore_n 2, 1) := by decide +kernel
theorem dX5_fitting_9 : decode cX5_fitting 9 = .ok (.iconst 0, 1) := by decide +kernel
theorem dX5_fitting_10 : decode cX5_fitting 10 = .ok (.istore_n 3, 1) := by decide +kernel
theorem dX5_fitting_11 : decode cX5_fitting 11 = .ok (.iload_n 3, 1) := by decide +kernel
theorem dX5_fitting_12 : decode cX5_fitting 12 = .ok (.aload_n 0, 1) := by decide +kernel
theorem dX5_fitting_13 : decode cX5_fitting 13 = .ok (.getfield 25, 3) := by decide +kernel
theorem dX5_fitting_16 : decode cX5_fitting 16 = .ok (.if_icmp .ge 56, 3) := by decide +kernel
theorem dX5_fitting_19 : decode cX5_fitting 19 = .ok (.aload_n 1, 1) := by decide +kernel
theorem dX5_fitting_20 : decode cX5_fitting 20 = .ok (.aload_n 0, 1) := by decide +kernel
theorem dX5_fitting_21 : decode cX5_fitting 21 = .ok (.getfield 11, 3) := by decide +kernel
theorem dX5_fitting_24 : decode cX5_fitting 24 = .ok (.iload_n 3, 1) := by decide +kernel
theorem dX5_fitting_25 : decode cX5_fitting 25 = .ok (.iaload, 1) := by decide +kernel
theorem dX5_fitting_26 : decode cX5_fitting 26 = .ok (.invokevirtual 37, 3) := by decide +kernel
theorem dX5_fitting_29 : decode cX5_fitting 29 = .ok (.ifCond .eq 37, 3) := by decide +kernel
theorem dX5_fitting_32 : decode cX5_fitting 32 = .ok (.aload_n 1, 1) := by decide +kernel
theorem dX5_fitting_33 : decode cX5_fitting 33 = .ok (.getfield 41, 3) := by decide +kernel
theorem dX5_fitting_36 : decode cX5_fitting 36 = .ok (.aload_n 0, 1) := by decide +kernel
theorem dX5_fitting_37 : decode cX5_fitting 37 = .ok (.getfield 11, 3) := by decide +kernel
theorem dX5_fitting_40 : decode cX5_fitting 40 = .ok (.iload_n 3, 1) := by decide +kernel
theorem dX5_fitting_41 : decode cX5_fitting 41 = .ok (.iaload, 1) := by decide +kernel
theorem dX5_fitting_42 : decode cX5_fitting 42 = .ok (.iaload, 1) := by decide +kernel
theorem dX5_fitting_43 : decode cX5_fitting 43 = .ok (.istore 4, 2) := by decide +kernel
theorem dX5_fitting_45 : decode cX5_fitting 45 = .ok (.iload_n 2, 1) := by decide +kernel
theorem dX5_fitting_46 : decode cX5_fitting 46 = .ok (.aload_n 0, 1) := by decide +kernel
theorem dX5_fitting_47 : decode cX5_fitting 47 = .ok (.getfield 15, 3) := by decide +kernel
theorem dX5_fitting_50 : decode cX5_fitting 50 = .ok (.iload_n 3, 1) := by decide +kernel
theorem dX5_fitting_51 : decode cX5_fitting 51 = .ok (.baload, 1) := by decide +kernel
theorem dX5_fitting_52 : decode cX5_fitting 52 = .ok (.ifCond .eq 8, 3) := by decide +kernel
theorem dX5_fitting_55 : decode cX5_fitting 55 = .ok (.iload 4, 2) := by decide +kernel
theorem dX5_fitting_57 : decode cX5_fitting 57 = .ok (.goto 7, 3) := by decide +kernel
theorem dX5_fitting_60 : decode cX5_fitting 60 = .ok (.iload 4, 2) := by decide +kernel
theorem dX5_fitting_62 : decode cX5_fitting 62 = .ok (.iconst (-1), 1) := by decide +kernel
theorem dX5_fitting_63 : decode cX5_fitting 63 = .ok (.ixor, 1) := by decide +kernel
theorem dX5_fitting_64 : decode cX5_fitting 64 = .ok (.iand, 1) := by decide +kernel
theorem dX5_fitting_65 : decode cX5_fitting 65 = .ok (.istore_n 2, 1) := by decide +kernel
theorem dX5_fitting_66 : decode cX5_fitting 66 = .ok (.iinc 3 1, 3) := by decide +kernel
theorem dX5_fitting_69 : decode cX5_fitting 69 = .ok (.goto (-58), 3) := by decide +kernel
theorem dX5_fitting_72 : decode cX5_fitting 72 = .ok (.iload_n 2, 1) := by decide +kernel
theorem dX5_fitting_73 : decode cX5_fitting 73 = .ok (.ireturn, 1) := by decide +kernel
set_option maxRecDepth 20000 in
theorem ggX5_firstWrong_X6_has : GoodIn wsX5_firstWrong wsX6_has := goodIn_r _ [9, 10, 22, 23, 24, 25, 26, 27, 28, 29] (by decide +kernel) (by decide +kernel)
set_option maxRecDepth 20000 in
theorem gX5_firstWrong_X6_has : GoodIn wsX5_firstWrong (wsV RX5 37 RX6 yX6_has wsX6_has) := goodIn_app (goodIn_of _ (by decide +kernel)) ggX5_firstWrong_X6_has
theorem dX5_firstWrong_0 : decode cX5_firstWrong 0 = .ok (.iconst 0, 1) := by decide +kernel
theorem dX5_firstWrong_1 : decode cX5_firstWrong 1 = .ok (.istore_n 3, 1) := by decide +kernel
theorem dX5_firstWrong_2 : decode cX5_firstWrong 2 = .ok (.iload_n 3, 1) := by decide +kernel
theorem dX5_firstWrong_3 : decode cX5_firstWrong 3 = .ok (.aload_n 0, 1) := by decide +kernel
theorem dX5_firstWrong_4 : decode cX5_firstWrong 4 = .ok (.getfield 29, 3) := by decide +kernel
theorem dX5_firstWrong_7 : decode cX5_firstWrong 7 = .ok (.if_icmp .ge 44, 3) := by decide +kernel
theorem dX5_firstWrong_10 : decode cX5_firstWrong 10 = .ok (.aload_n 1, 1) := by decide +kernel
theorem dX5_firstWrong_11 : decode cX5_firstWrong 11 = .ok (.aload_n 0, 1) := by decide +kernel
theorem dX5_firstWrong_12 : decode cX5_firstWrong 12 = .ok (.getfield 19, 3) := by decide +kernel
theorem dX5_firstWrong_15 : decode cX5_firstWrong 15 = .ok (.iload_n 3, 1) := by decide +kernel
theorem dX5_firstWrong_16 : decode cX5_firstWrong 16 = .ok (.iaload, 1) := by decide +kernel
theorem dX5_firstWrong_17 : decode cX5_firstWrong 17 = .ok (.invokevirtual 37, 3) := by decide +kernel
theorem dX5_firstWrong_20 : decode cX5_firstWrong 20 = .ok (.ifCond .eq 25, 3) := by decide +kernel
theorem dX5_firstWrong_23 : decode cX5_firstWrong 23 = .ok (.aload_n 2, 1) := by decide +kernel
theorem dX5_firstWrong_24 : decode cX5_firstWrong 24 = .ok (.getfield 44, 3) := by decide +kernel
theorem dX5_firstWrong_27 : decode cX5_firstWrong 27 = .ok (.aload_n 0, 1) := by decide +kernel
theorem dX5_firstWrong_28 : decode cX5_firstWrong 28 = .ok (.getfield 19, 3) := by decide +kernel
theorem dX5_firstWrong_31 : decode cX5_firstWrong 31 = .ok (.iload_n 3, 1) := by decide +kernel
theorem dX5_firstWrong_32 : decode cX5_firstWrong 32 = .ok (.iaload, 1) := by decide +kernel
theorem dX5_firstWrong_33 : decode cX5_firstWrong 33 = .ok (.iaload, 1) := by decide +kernel
theorem dX5_firstWrong_34 : decode cX5_firstWrong 34 = .ok (.aload_n 0, 1) := by decide +kernel
theorem dX5_firstWrong_35 : decode cX5_firstWrong 35 = .ok (.getfield 22, 3) := by decide +kernel
theorem dX5_firstWrong_38 : decode cX5_firstWrong 38 = .ok (.iload_n 3, 1) := by decide +kernel
theorem dX5_firstWrong_39 : decode cX5_firstWrong 39 = .ok (.iaload, 1) := by decide +kernel
theorem dX5_firstWrong_40 : decode cX5_firstWrong 40 = .ok (.if_icmp .eq 5, 3) := by decide +kernel
theorem dX5_firstWrong_43 : decode cX5_firstWrong 43 = .ok (.iload_n 3, 1) := by decide +kernel
theorem dX5_firstWrong_44 : decode cX5_firstWrong 44 = .ok (.ireturn, 1) := by decide +kernel
theorem dX5_firstWrong_45 : decode cX5_firstWrong 45 = .ok (.iinc 3 1, 3) := by decide +kernel
theorem dX5_firstWrong_48 : decode cX5_firstWrong 48 = .ok (.goto (-46), 3) := by decide +kernel
theorem dX5_firstWrong_51 : decode cX5_firstWrong 51 = .ok (.iconst (-1), 1) := by decide +kernel
theorem dX5_firstWrong_52 : decode cX5_firstWrong 52 = .ok (.ireturn, 1) := by decide +kernel
theorem dX6_init_0 : decode cX6_init 0 = .ok (.aload_n 0, 1) := by decide +kernel
theorem dX6_init_1 : decode cX6_init 1 = .ok (.invokespecial 3, 3) := by decide +kernel
theorem dX6_init_4 : decode cX6_init 4 = .ok (.aload_n 0, 1) := by decide +kernel
theorem dX6_init_5 : decode cX6_init 5 = .ok (.bipush 8, 2) := by decide +kernel
theorem dX6_init_7 : decode cX6_init 7 = .ok (.newarray .int, 2) := by decide +kernel
theorem dX6_init_9 : decode cX6_init 9 = .ok (.putfield 9, 3) := by decide +kernel
theorem dX6_init_12 : decode cX6_init 12 = .ok (.aload_n 0, 1) := by decide +kernel
theorem dX6_init_13 : decode cX6_init 13 = .ok (.bipush 8, 2) := by decide +kernel
theorem dX6_init_15 : decode cX6_init 15 = .ok (.newarray .int, 2) := by decide +kernel
theorem dX6_init_17 : decode cX6_init 17 = .ok (.putfield 15, 3) := by decide +kernel
theorem dX6_init_20 : decode cX6_init 20 = .ok (.aload_n 0, 1) := by decide +kernel
theorem dX6_init_21 : decode cX6_init 21 = .ok (.bipush 8, 2) := by decide +kernel
theorem dX6_init_23 : decode cX6_init 23 = .ok (.newarray .int, 2) := by decide +kernel
theorem dX6_init_25 : decode cX6_init 25 = .ok (.putfield 18, 3) := by decide +kernel
theorem dX6_init_28 : decode cX6_init 28 = .ok (.aload_n 0, 1) := by decide +kernel
theorem dX6_init_29 : decode cX6_init 29 = .ok (.bipush 8, 2) := by decide +kernel
theorem dX6_init_31 : decode cX6_init 31 = .ok (.newarray .int, 2) := by decide +kernel
theorem dX6_init_33 : decode cX6_init 33 = .ok (.putfield 21, 3) := by decide +kernel
theorem dX6_init_36 : decode cX6_init 36 = .ok (.return_, 1) := by decide +kernel
theorem dX6_clear_0 : decode cX6_clear 0 = .ok (.aload_n 0, 1) := by decide +kernel
theorem dX6_clear_1 : decode cX6_clear 1 = .ok (.iconst 0, 1) := by decide +kernel
theorem dX6_clear_2 : decode cX6_clear 2 = .ok (.putfield 24, 3) := by decide +kernel
theorem dX6_clear_5 : decode cX6_clear 5 = .ok (.aload_n 0, 1) := by decide +kernel
theorem dX6_clear_6 : decode cX6_clear 6 = .ok (.iconst 0, 1) := by decide +kernel
theorem dX6_clear_7 : decode cX6_clear 7 = .ok (.putfield 28, 3) := by decide +kernel
theorem dX6_clear_10 : decode cX6_clear 10 = .ok (.aload_n 0, 1) := by decide +kernel
theorem dX6_clear_11 : decode cX6_clear 11 = .ok (.iconst 0, 1) := by decide +kernel
theorem dX6_clear_12 : decode cX6_clear 12 = .ok (.putfield 32, 3) := by decide +kernel
theorem dX6_clear_15 : decode cX6_clear 15 = .ok (.aload_n 0, 1) := by decide +kernel
theorem dX6_clear_16 : decode cX6_clear 16 = .ok (.iconst 0, 1) := by decide +kernel
theorem dX6_clear_17 : decode cX6_clear 17 = .ok (.putfield 35, 3) := by decide +kernel
theorem dX6_clear_20 : decode cX6_clear 20 = .ok (.return_, 1) := by decide +kernel
theorem dX6_begin_0 : decode cX6_begin 0 = .ok (.aload_n 0, 1) := by decide +kernel
theorem dX6_begin_1 : decode cX6_begin 1 = .ok (.iconst 1, 1) := by decide +kernel
theorem dX6_begin_2 : decode cX6_begin 2 = .ok (.putfield 24, 3) := by decide +kernel
theorem dX6_begin_5 : decode cX6_begin 5 = .ok (.aload_n 0, 1) := by decide +kernel
theorem dX6_begin_6 : decode cX6_begin 6 = .ok (.iload_n 1, 1) := by decide +kernel
theorem dX6_begin_7 : decode cX6_begin 7 = .ok (.putfield 28, 3) := by decide +kernel
theorem dX6_begin_10 : decode cX6_begin 10 = .ok (.aload_n 0, 1) := by decide +kernel
theorem dX6_begin_11 : decode cX6_begin 11 = .ok (.iload_n 2, 1) := by decide +kernel
theorem dX6_begin_12 : decode cX6_begin 12 = .ok (.putfield 32, 3) := by decide +kernel
theorem dX6_begin_15 : decode cX6_begin 15 = .ok (.return_, 1) := by decide +kernel
theorem dX6_has_0 : decode cX6_has 0 = .ok (.iload_n 1, 1) := by decide +kernel
theorem dX6_has_1 : decode cX6_has 1 = .ok (.ifCond .lt 15, 3) := by decide +kernel
theorem dX6_has_4 : decode cX6_has 4 = .ok (.iload_n 1, 1) := by decide +kernel
theorem dX6_has_5 : decode cX6_has 5 = .ok (.aload_n 0, 1) := by decide +kernel
theorem dX6_has_6 : decode cX6_has 6 = .ok (.getfield 35, 3) := by decide +kernel
theorem dX6_has_9 : decode cX6_has 9 = .ok (.if_icmp .ge 7, 3) := by decide +kernel
theorem dX6_has_12 : decode cX6_has 12 = .ok (.iconst 1, 1) := by decide +kernel
theorem dX6_has_13 : decode cX6_has 13 = .ok (.goto 4, 3) := by decide +kernel
theorem dX6_has_16 : decode cX6_has 16 = .ok (.iconst 0, 1) := by decide +kernel
theorem dX6_has_17 : decode cX6_has 17 = .ok (.ireturn, 1) := by decide +kernel
set_option maxRecDepth 20000 in
theorem ggX6_addHouse_X6_has : GoodIn wsX6_addHouse wsX6_has := goodIn_r _ [10, 1, 15, 16, 17, 18, 19, 20, 21, 22] (by decide +kernel) (by decide +kernel)
set_option maxRecDepth 20000 in
theorem gX6_addHouse_X6_has : GoodIn wsX6_addHouse (wsV RX6 38 RX6 yX6_has wsX6_has) := goodIn_app (goodIn_of _ (by decide +kernel)) ggX6_addHouse_X6_has
set_option maxRecDepth 20000 in
theorem ggX6_addHouse_X6_markBelow : GoodIn wsX6_addHouse wsX6_markBelow := goodIn_r _ [14, 5, 4, 6, 7, 8, 9, 10, 1, 15, 16, 17, 18, 19, 20, 21, 22] (by decide +kernel) (by decide +kernel)
set_option maxRecDepth 20000 in
theorem gX6_addHouse_X6_markBelow : GoodIn wsX6_addHouse (wsV RX6 42 RX6 yX6_markBelow wsX6_markBelow) := goodIn_app (goodIn_of _ (by decide +kernel)) ggX6_addHouse_X6_markBelow
theorem dX6_addHouse_0 : decode cX6_addHouse 0 = .ok (.aload_n 0, 1) := by decide +kernel
theorem dX6_addHouse_1 : decode cX6_addHouse 1 = .ok (.getfield 35, 3) := by decide +kernel
theorem dX6_addHouse_4 : decode cX6_addHouse 4 = .ok (.bipush 8, 2) := by decide +kernel
theorem dX6_addHouse_6 : decode cX6_addHouse 6 = .ok (.if_icmp .lt 4, 3) := by decide +kernel
theorem dX6_addHouse_9 : decode cX6_addHouse 9 = .ok (.return_, 1) := by decide +kernel
theorem dX6_addHouse_10 : decode cX6_addHouse 10 = .ok (.aload_n 0, 1) := by decide +kernel
theorem dX6_addHouse_11 : decode cX6_addHouse 11 = .ok (.getfield 9, 3) := by decide +kernel
theorem dX6_addHouse_14 : decode cX6_addHouse 14 = .ok (.aload_n 0, 1) := by decide +kernel
theorem dX6_addHouse_15 : decode cX6_addHouse 15 = .ok (.getfield 35, 3) := by decide +kernel
theorem dX6_addHouse_18 : decode cX6_addHouse 18 = .ok (.iload_n 1, 1) := by decide +kernel
theorem dX6_addHouse_19 : decode cX6_addHouse 19 = .ok (.iastore, 1) := by decide +kernel
theorem dX6_addHouse_20 : decode cX6_addHouse 20 = .ok (.aload_n 0, 1) := by decide +kernel
theorem dX6_addHouse_21 : decode cX6_addHouse 21 = .ok (.getfield 15, 3) := by decide +kernel
theorem dX6_addHouse_24 : decode cX6_addHouse 24 = .ok (.aload_n 0, 1) := by decide +kernel
theorem dX6_addHouse_25 : decode cX6_addHouse 25 = .ok (.getfield 35, 3) := by decide +kernel
theorem dX6_addHouse_28 : decode cX6_addHouse 28 = .ok (.iload_n 2, 1) := by decide +kernel
theorem dX6_addHouse_29 : decode cX6_addHouse 29 = .ok (.iastore, 1) := by decide +kernel
theorem dX6_addHouse_30 : decode cX6_addHouse 30 = .ok (.aload_n 0, 1) := by decide +kernel
theorem dX6_addHouse_31 : decode cX6_addHouse 31 = .ok (.getfield 18, 3) := by decide +kernel
theorem dX6_addHouse_34 : decode cX6_addHouse 34 = .ok (.aload_n 0, 1) := by decide +kernel
theorem dX6_addHouse_35 : decode cX6_addHouse 35 = .ok (.getfield 35, 3) := by decide +kernel
theorem dX6_addHouse_38 : decode cX6_addHouse 38 = .ok (.aload_n 0, 1) := by decide +kernel
theorem dX6_addHouse_39 : decode cX6_addHouse 39 = .ok (.iload_n 3, 1) := by decide +kernel
theorem dX6_addHouse_40 : decode cX6_addHouse 40 = .ok (.invokevirtual 38, 3) := by decide +kernel
theorem dX6_addHouse_43 : decode cX6_addHouse 43 = .ok (.ifCond .eq 7, 3) := by decide +kernel
theorem dX6_addHouse_46 : decode cX6_addHouse 46 = .ok (.iload_n 3, 1) := by decide +kernel
theorem dX6_addHouse_47 : decode cX6_addHouse 47 = .ok (.goto 4, 3) := by decide +kernel
theorem dX6_addHouse_50 : decode cX6_addHouse 50 = .ok (.iconst (-1), 1) := by decide +kernel
theorem dX6_addHouse_51 : decode cX6_addHouse 51 = .ok (.iastore, 1) := by decide +kernel
theorem dX6_addHouse_52 : decode cX6_addHouse 52 = .ok (.aload_n 0, 1) := by decide +kernel
theorem dX6_addHouse_53 : decode cX6_addHouse 53 = .ok (.getfield 21, 3) := by decide +kernel
theorem dX6_addHouse_56 : decode cX6_addHouse 56 = .ok (.aload_n 0, 1) := by decide +kernel
theorem dX6_addHouse_57 : decode cX6_addHouse 57 = .ok (.getfield 35, 3) := by decide +kernel
theorem dX6_addHouse_60 : decode cX6_addHouse 60 = .ok (.iconst 0, 1) := by decide +kernel
theorem dX6_addHouse_61 : decode cX6_addHouse 61 = .ok (.iastore, 1) := by decide +kernel
theorem dX6_addHouse_62 : decode cX6_addHouse 62 = .ok (.aload_n 0, 1) := by decide +kernel
theorem dX6_addHouse_63 : decode cX6_addHouse 63 = .ok (.dup, 1) := by decide +kernel
theorem dX6_addHouse_64 : decode cX6_addHouse 64 = .ok (.getfield 35, 3) := by decide +kernel
theorem dX6_addHouse_67 : decode cX6_addHouse 67 = .ok (.iconst 1, 1) := by decide +kernel
theorem dX6_addHouse_68 : decode cX6_addHouse 68 = .ok (.iadd, 1) := by decide +kernel
theorem dX6_addHouse_69 : decode cX6_addHouse 69 = .ok (.putfield 35, 3) := by decide +kernel
theorem dX6_addHouse_72 : decode cX6_addHouse 72 = .ok (.aload_n 0, 1) := by decide +kernel
theorem dX6_addHouse_73 : decode cX6_addHouse 73 = .ok (.aload_n 0, 1) := by decide +kernel
theorem dX6_addHouse_74 : decode cX6_addHouse 74 = .ok (.getfield 35, 3) := by decide +kernel
theorem dX6_addHouse_77 : decode cX6_addHouse 77 = .ok (.iconst 1, 1) := by decide +kernel
theorem dX6_addHouse_78 : decode cX6_addHouse 78 = .ok (.isub, 1) := by decide +kernel
theorem dX6_addHouse_79 : decode cX6_addHouse 79 = .ok (.invokevirtual 42, 3) := by decide +kernel
theorem dX6_addHouse_82 : decode cX6_addHouse 82 = .ok (.return_, 1) := by decide +kernel
set_option maxRecDepth 20000 in
theorem ggX6_markBelow_X6_has : GoodIn wsX6_markBelow wsX6_has := goodIn_r _ [7, 8, 9, 10, 11, 12, 13, 14, 15, 16] (by decide +kernel) (by decide +kernel)
set_option maxRecDepth 20000 in
theorem gX6_markBelow_X6_has : GoodIn wsX6_markBelow (wsV RX6 38 RX6 yX6_has wsX6_has) := goodIn_app (goodIn_of _ (by decide +kernel)) ggX6_markBelow_X6_has
theorem dX6_markBelow_0 : decode cX6_markBelow 0 = .ok (.iload_n 1, 1) := by decide +kernel
theorem dX6_markBelow_1 : decode cX6_markBelow 1 = .ok (.istore_n 2, 1) := by decide +kernel
theorem dX6_markBelow_2 : decode cX6_markBelow 2 = .ok (.iconst 0, 1) := by decide +kernel
theorem dX6_markBelow_3 : decode cX6_markBelow 3 = .ok (.istore_n 3, 1) := by decide +kernel
theorem dX6_markBelow_4 : decode cX6_markBelow 4 = .ok (.iload_n 3, 1) := by decide +kernel
theorem dX6_markBelow_5 : decode cX6_markBelow 5 = .ok (.bipush 8, 2) := by decide +kernel
theorem dX6_markBelow_7 : decode cX6_markBelow 7 = .ok (.if_icmp .ge 36, 3) := by decide +kernel
theorem dX6_markBelow_10 : decode cX6_markBelow 10 = .ok (.aload_n 0, 1) := by decide +kernel
theorem dX6_markBelow_11 : decode cX6_markBelow 11 = .ok (.iload_n 2, 1) := by decide +kernel
theorem dX6_markBelow_12 : decode cX6_markBelow 12 = .ok (.invokevirtual 38, 3) := by decide +kernel
theorem dX6_markBelow_15 : decode cX6_markBelow 15 = .ok (.ifCond .eq 28, 3) := by decide +kernel
theorem dX6_markBelow_18 : decode cX6_markBelow 18 = .ok (.aload_n 0, 1) := by decide +kernel
theorem dX6_markBelow_19 : decode cX6_markBelow 19 = .ok (.getfield 21, 3) := by decide +kernel
theorem dX6_markBelow_22 : decode cX6_markBelow 22 = .ok (.iload_n 2, 1) := by decide +kernel
theorem dX6_markBelow_23 : decode cX6_markBelow 23 = .ok (.dup2, 1) := by decide +kernel
theorem dX6_markBelow_24 : decode cX6_markBelow 24 = .ok (.iaload, 1) := by decide +kernel
theorem dX6_markBelow_25 : decode cX6_markBelow 25 = .ok (.iconst 1, 1) := by decide +kernel
theorem dX6_markBelow_26 : decode cX6_markBelow 26 = .ok (.iload_n 1, 1) := by decide +kernel
theorem dX6_markBelow_27 : decode cX6_markBelow 27 = .ok (.ishl, 1) := by decide +kernel
theorem dX6_markBelow_28 : decode cX6_markBelow 28 = .ok (.ior, 1) := by decide +kernel
theorem dX6_markBelow_29 : decode cX6_markBelow 29 = .ok (.iastore, 1) := by decide +kernel
theorem dX6_markBelow_30 : decode cX6_markBelow 30 = .ok (.aload_n 0, 1) := by decide +kernel
theorem dX6_markBelow_31 : decode cX6_markBelow 31 = .ok (.getfield 18, 3) := by decide +kernel
theorem dX6_markBelow_34 : decode cX6_markBelow 34 = .ok (.iload_n 2, 1) := by decide +kernel
theorem dX6_markBelow_35 : decode cX6_markBelow 35 = .ok (.iaload, 1) := by decide +kernel
theorem dX6_markBelow_36 : decode cX6_markBelow 36 = .ok (.istore_n 2, 1) := by decide +kernel
theorem dX6_markBelow_37 : decode cX6_markBelow 37 = .ok (.iinc 3 1, 3) := by decide +kernel
theorem dX6_markBelow_40 : decode cX6_markBelow 40 = .ok (.goto (-36), 3) := by decide +kernel
theorem dX6_markBelow_43 : decode cX6_markBelow 43 = .ok (.return_, 1) := by decide +kernel
theorem dX7_init_0 : decode cX7_init 0 = .ok (.aload_n 0, 1) := by decide +kernel
theorem dX7_init_1 : decode cX7_init 1 = .ok (.invokespecial 3, 3) := by decide +kernel
theorem dX7_init_4 : decode cX7_init 4 = .ok (.aload_n 0, 1) := by decide +kernel
theorem dX7_init_5 : decode cX7_init 5 = .ok (.bipush 6, 2) := by decide +kernel
theorem dX7_init_7 : decode cX7_init 7 = .ok (.newarray .int, 2) := by decide +kernel
theorem dX7_init_9 : decode cX7_init 9 = .ok (.putfield 11, 3) := by decide +kernel
theorem dX7_init_12 : decode cX7_init 12 = .ok (.aload_n 0, 1) := by decide +kernel
theorem dX7_init_13 : decode cX7_init 13 = .ok (.bipush 8, 2) := by decide +kernel
theorem dX7_init_15 : decode cX7_init 15 = .ok (.newarray .int, 2) := by decide +kernel
theorem dX7_init_17 : decode cX7_init 17 = .ok (.putfield 15, 3) := by decide +kernel
theorem dX7_init_20 : decode cX7_init 20 = .ok (.aload_n 0, 1) := by decide +kernel
theorem dX7_init_21 : decode cX7_init 21 = .ok (.iconst 0, 1) := by decide +kernel
theorem dX7_init_22 : decode cX7_init 22 = .ok (.putfield 18, 3) := by decide +kernel
theorem dX7_init_25 : decode cX7_init 25 = .ok (.aload_n 0, 1) := by decide +kernel
theorem dX7_init_26 : decode cX7_init 26 = .ok (.iconst 0, 1) := by decide +kernel
theorem dX7_init_27 : decode cX7_init 27 = .ok (.putfield 22, 3) := by decide +kernel
theorem dX7_init_30 : decode cX7_init 30 = .ok (.return_, 1) := by decide +kernel
theorem dX7_firstOrder_0 : decode cX7_firstOrder 0 = .ok (.iconst 0, 1) := by decide +kernel
theorem dX7_firstOrder_1 : decode cX7_firstOrder 1 = .ok (.istore_n 2, 1) := by decide +kernel
theorem dX7_firstOrder_2 : decode cX7_firstOrder 2 = .ok (.iconst 0, 1) := by decide +kernel
theorem dX7_firstOrder_3 : decode cX7_firstOrder 3 = .ok (.istore_n 3, 1) := by decide +kernel
theorem dX7_firstOrder_4 : decode cX7_firstOrder 4 = .ok (.iload_n 3, 1) := by decide +kernel
theorem dX7_firstOrder_5 : decode cX7_firstOrder 5 = .ok (.iload_n 1, 1) := by decide +kernel
theorem dX7_firstOrder_6 : decode cX7_firstOrder 6 = .ok (.if_icmp .ge 24, 3) := by decide +kernel
theorem dX7_firstOrder_9 : decode cX7_firstOrder 9 = .ok (.iload_n 1, 1) := by decide +kernel
theorem dX7_firstOrder_10 : decode cX7_firstOrder 10 = .ok (.bipush 6, 2) := by decide +kernel
theorem dX7_firstOrder_12 : decode cX7_firstOrder 12 = .ok (.if_icmp .gt 18, 3) := by decide +kernel
theorem dX7_firstOrder_15 : decode cX7_firstOrder 15 = .ok (.iload_n 2, 1) := by decide +kernel
theorem dX7_firstOrder_16 : decode cX7_firstOrder 16 = .ok (.bipush 10, 2) := by decide +kernel
theorem dX7_firstOrder_18 : decode cX7_firstOrder 18 = .ok (.imul, 1) := by decide +kernel
theorem dX7_firstOrder_19 : decode cX7_firstOrder 19 = .ok (.iload_n 3, 1) := by decide +kernel
theorem dX7_firstOrder_20 : decode cX7_firstOrder 20 = .ok (.iadd, 1) := by decide +kernel
theorem dX7_firstOrder_21 : decode cX7_firstOrder 21 = .ok (.iconst 1, 1) := by decide +kernel
theorem dX7_firstOrder_22 : decode cX7_firstOrder 22 = .ok (.iadd, 1) := by decide +kernel
theorem dX7_firstOrder_23 : decode cX7_firstOrder 23 = .ok (.istore_n 2, 1) := by decide +kernel
theorem dX7_firstOrder_24 : decode cX7_firstOrder 24 = .ok (.iinc 3 1, 3) := by decide +kernel
theorem dX7_firstOrder_27 : decode cX7_firstOrder 27 = .ok (.goto (-23), 3) := by decide +kernel
theorem dX7_firstOrder_30 : decode cX7_firstOrder 30 = .ok (.iload_n 2, 1) := by decide +kernel
theorem dX7_firstOrder_31 : decode cX7_firstOrder 31 = .ok (.ireturn, 1) := by decide +kernel
theorem dX7_readOrder_0 : decode cX7_readOrder 0 = .ok (.iload_n 2, 1) := by decide +kernel
theorem dX7_readOrder_1 : decode cX7_readOrder 1 = .ok (.iconst 1, 1) := by decide +kernel
theorem dX7_readOrder_2 : decode cX7_readOrder 2 = .ok (.if_icmp .lt 14, 3) := by decide +kernel
theorem dX7_readOrder_5 : decode cX7_readOrder 5 = .ok (.iload_n 2, 1) := by decide +kernel
theorem dX7_readOrder_6 : decode cX7_readOrder 6 = .ok (.bipush 6, 2) := by decide +kernel
theorem dX7_readOrder_8 : decode cX7_readOrder 8 = .ok (.if_icmp .gt 8, 3) := by decide +kernel
theorem dX7_readOrder_11 : decode cX7_readOrder 11 = .ok (.iload_n 1, 1) := by decide +kernel
theorem dX7_readOrder_12 : decode cX7_readOrder 12 = .ok (.iconst 1, 1) := by decide +kernel
theorem dX7_readOrder_13 : decode cX7_readOrder 13 = .ok (.if_icmp .ge 5, 3) := by decide +kernel
theorem dX7_readOrder_16 : decode cX7_readOrder 16 = .ok (.iconst 0, 1) := by decide +kernel
theorem dX7_readOrder_17 : decode cX7_readOrder 17 = .ok (.ireturn, 1) := by decide +kernel
theorem dX7_readOrder_18 : decode cX7_readOrder 18 = .ok (.aload_n 0, 1) := by decide +kernel
theorem dX7_readOrder_19 : decode cX7_readOrder 19 = .ok (.iload_n 2, 1) := by decide +kernel
theorem dX7_readOrder_20 : decode cX7_readOrder 20 = .ok (.putfield 18, 3) := by decide +kernel
theorem dX7_readOrder_23 : decode cX7_readOrder 23 = .ok (.iload_n 1, 1) := by decide +kernel
theorem dX7_readOrder_24 : decode cX7_readOrder 24 = .ok (.istore_n 3, 1) := by decide +kernel
theorem dX7_readOrder_25 : decode cX7_readOrder 25 = .ok (.iconst 0, 1) := by decide +kernel
theorem dX7_readOrder_26 : decode cX7_readOrder 26 = .ok (.istore 4, 2) := by decide +kernel
theorem dX7_readOrder_28 : decode cX7_readOrder 28 = .ok (.iload_n 2, 1) := by decide +kernel
theorem dX7_readOrder_29 : decode cX7_readOrder 29 = .ok (.iconst 1, 1) := by decide +kernel
theorem dX7_readOrder_30 : decode cX7_readOrder 30 = .ok (.isub, 1) := by decide +kernel
theorem dX7_readOrder_31 : decode cX7_readOrder 31 = .ok (.istore 5, 2) := by decide +kernel
theorem dX7_readOrder_33 : decode cX7_readOrder 33 = .ok (.iload 5, 2) := by decide +kernel
theorem dX7_readOrder_35 : decode cX7_readOrder 35 = .ok (.ifCond .lt 64, 3) := by decide +kernel
theorem dX7_readOrder_38 : decode cX7_readOrder 38 = .ok (.iload_n 3, 1) := by decide +kernel
theorem dX7_readOrder_39 : decode cX7_readOrder 39 = .ok (.bipush 10, 2) := by decide +kernel
theorem dX7_readOrder_41 : decode cX7_readOrder 41 = .ok (.irem, 1) := by decide +kernel
theorem dX7_readOrder_42 : decode cX7_readOrder 42 = .ok (.iconst 1, 1) := by decide +kernel
theorem dX7_readOrder_43 : decode cX7_readOrder 43 = .ok (.isub, 1) := by decide +kernel
theorem dX7_readOrder_44 : decode cX7_readOrder 44 = .ok (.istore 6, 2) := by decide +kernel
theorem dX7_readOrder_46 : decode cX7_readOrder 46 = .ok (.iload 6, 2) := by decide +kernel
theorem dX7_readOrder_48 : decode cX7_readOrder 48 = .ok (.ifCond .lt 20, 3) := by decide +kernel
theorem dX7_readOrder_51 : decode cX7_readOrder 51 = .ok (.iload 6, 2) := by decide +kernel
theorem dX7_readOrder_53 : decode cX7_readOrder 53 = .ok (.iload_n 2, 1) := by decide +kernel
theorem dX7_readOrder_54 : decode cX7_readOrder 54 = .ok (.if_icmp .ge 14, 3) := by decide +kernel
theorem dX7_readOrder_57 : decode cX7_readOrder 57 = .ok (.iload 4, 2) := by decide +kernel
theorem dX7_readOrder_59 : decode cX7_readOrder 59 = .ok (.iload 6, 2) := by decide +kernel
theorem dX7_readOrder_61 : decode cX7_readOrder 61 = .ok (.ishr, 1) := by decide +kernel
theorem dX7_readOrder_62 : decode cX7_readOrder 62 = .ok (.iconst 1, 1) := by decide +kernel
theorem dX7_readOrder_63 : decode cX7_readOrder 63 = .ok (.iand, 1) := by decide +kernel
theorem dX7_readOrder_64 : decode cX7_readOrder 64 = .ok (.iconst 1, 1) := by decide +kernel
theorem dX7_readOrder_65 : decode cX7_readOrder 65 = .ok (.if_icmp .ne 5, 3) := by decide +kernel
theorem dX7_readOrder_68 : decode cX7_readOrder 68 = .ok (.iconst 0, 1) := by decide +kernel
theorem dX7_readOrder_69 : decode cX7_readOrder 69 = .ok (.ireturn, 1) := by decide +kernel
theorem dX7_readOrder_70 : decode cX7_readOrder 70 = .ok (.iload 4, 2) := by decide +kernel
theorem dX7_readOrder_72 : decode cX7_readOrder 72 = .ok (.iconst 1, 1) := by decide +kernel
theorem dX7_readOrder_73 : decode cX7_readOrder 73 = .ok (.iload 6, 2) := by decide +kernel
theorem dX7_readOrder_75 : decode cX7_readOrder 75 = .ok (.ishl, 1) := by decide +kernel
theorem dX7_readOrder_76 : decode cX7_readOrder 76 = .ok (.ior, 1) := by decide +kernel
theorem dX7_readOrder_77 : decode cX7_readOrder 77 = .ok (.istore 4, 2) := by decide +kernel
theorem dX7_readOrder_79 : decode cX7_readOrder 79 = .ok (.aload_n 0, 1) := by decide +kernel
theorem dX7_readOrder_80 : decode cX7_readOrder 80 = .ok (.getfield 11, 3) := by decide +kernel
theorem dX7_readOrder_83 : decode cX7_readOrder 83 = .ok (.iload 5, 2) := by decide +kernel
theorem dX7_readOrder_85 : decode cX7_readOrder 85 = .ok (.iload 6, 2) := by decide +kernel
theorem dX7_readOrder_87 : decode cX7_readOrder 87 = .ok (.iastore, 1) := by decide +kernel
theorem dX7_readOrder_88 : decode cX7_readOrder 88 = .ok (.iload_n 3, 1) := by decide +kernel
theorem dX7_readOrder_89 : decode cX7_readOrder 89 = .ok (.bipush 10, 2) := by decide +kernel
theorem dX7_readOrder_91 : decode cX7_readOrder 91 = .ok (.idiv, 1) := by decide +kernel
theorem dX7_readOrder_92 : decode cX7_readOrder 92 = .ok (.istore_n 3, 1) := by decide +kernel
theorem dX7_readOrder_93 : decode cX7_readOrder 93 = .ok (.iinc 5 (-1), 3) := by decide +kernel
theorem dX7_readOrder_96 : decode cX7_readOrder 96 = .ok (.goto (-63), 3) := by decide +kernel
theorem dX7_readOrder_99 : decode cX7_readOrder 99 = .ok (.iload_n 3, 1) := by decide +kernel
theorem dX7_readOrder_100 : decode cX7_readOrder 100 = .ok (.ifCond .ne 7, 3) := by decide +kernel
theorem dX7_readOrder_103 : decode cX7_readOrder 103 = .ok (.iconst 1, 1) := by decide +kernel
theorem dX7_readOrder_104 : decode cX7_readOrder 104 = .ok (.goto 4, 3) := by decide +kernel
theorem dX7_readOrder_107 : decode cX7_readOrder 107 = .ok (.iconst 0, 1) := by decide +kernel
theorem dX7_readOrder_108 : decode cX7_readOrder 108 = .ok (.ireturn, 1) := by decide +kernel
set_option maxRecDepth 20000 in
theorem ggX7_greatest_X7_pull : GoodIn wsX7_greatest wsX7_pull := goodIn_r _ [15, 8, 2, 16, 17, 18, 19, 20, 21, 22, 31, 32, 33, 34, 23, 24, 25, 26, 27, 28, 29, 30] (by decide +kernel) (by decide +kernel)
set_option maxRecDepth 20000 in
theorem gX7_greatest_X7_pull : GoodIn wsX7_greatest (wsV RX7 41 RX7 yX7_pull wsX7_pull) := goodIn_app (goodIn_of _ (by decide +kernel)) ggX7_greatest_X7_pull
theorem dX7_greatest_0 : decode cX7_greatest 0 = .ok (.iconst 0, 1) := by decide +kernel
theorem dX7_greatest_1 : decode cX7_greatest 1 = .ok (.istore_n 3, 1) := by decide +kernel
theorem dX7_greatest_2 : decode cX7_greatest 2 = .ok (.iconst 0, 1) := by decide +kernel
theorem dX7_greatest_3 : decode cX7_greatest 3 = .ok (.istore 4, 2) := by decide +kernel
theorem dX7_greatest_5 : decode cX7_greatest 5 = .ok (.iload 4, 2) := by decide +kernel
theorem dX7_greatest_7 : decode cX7_greatest 7 = .ok (.aload_n 1, 1) := by decide +kernel
theorem dX7_greatest_8 : decode cX7_greatest 8 = .ok (.getfield 25, 3) := by decide +kernel
theorem dX7_greatest_11 : decode cX7_greatest 11 = .ok (.if_icmp .ge 35, 3) := by decide +kernel
theorem dX7_greatest_14 : decode cX7_greatest 14 = .ok (.aload_n 0, 1) := by decide +kernel
theorem dX7_greatest_15 : decode cX7_greatest 15 = .ok (.getfield 15, 3) := by decide +kernel
theorem dX7_greatest_18 : decode cX7_greatest 18 = .ok (.iload 4, 2) := by decide +kernel
theorem dX7_greatest_20 : decode cX7_greatest 20 = .ok (.aload_n 2, 1) := by decide +kernel
theorem dX7_greatest_21 : decode cX7_greatest 21 = .ok (.getfield 30, 3) := by decide +kernel
theorem dX7_greatest_24 : decode cX7_greatest 24 = .ok (.iload 4, 2) := by decide +kernel
theorem dX7_greatest_26 : decode cX7_greatest 26 = .ok (.iaload, 1) := by decide +kernel
theorem dX7_greatest_27 : decode cX7_greatest 27 = .ok (.iastore, 1) := by decide +kernel
theorem dX7_greatest_28 : decode cX7_greatest 28 = .ok (.iload_n 3, 1) := by decide +kernel
theorem dX7_greatest_29 : decode cX7_greatest 29 = .ok (.aload_n 0, 1) := by decide +kernel
theorem dX7_greatest_30 : decode cX7_greatest 30 = .ok (.getfield 15, 3) := by decide +kernel
theorem dX7_greatest_33 : decode cX7_greatest 33 = .ok (.iload 4, 2) := by decide +kernel
theorem dX7_greatest_35 : decode cX7_greatest 35 = .ok (.iaload, 1) := by decide +kernel
theorem dX7_greatest_36 : decode cX7_greatest 36 = .ok (.invokestatic 35, 3) := by decide +kernel
theorem dX7_greatest_39 : decode cX7_greatest 39 = .ok (.istore_n 3, 1) := by decide +kernel
theorem dX7_greatest_40 : decode cX7_greatest 40 = .ok (.iinc 4 1, 3) := by decide +kernel
theorem dX7_greatest_43 : decode cX7_greatest 43 = .ok (.goto (-38), 3) := by decide +kernel
theorem dX7_greatest_46 : decode cX7_greatest 46 = .ok (.aload_n 0, 1) := by decide +kernel
theorem dX7_greatest_47 : decode cX7_greatest 47 = .ok (.iconst 0, 1) := by decide +kernel
theorem dX7_greatest_48 : decode cX7_greatest 48 = .ok (.putfield 22, 3) := by decide +kernel
theorem dX7_greatest_51 : decode cX7_greatest 51 = .ok (.iconst 0, 1) := by decide +kernel
theorem dX7_greatest_52 : decode cX7_greatest 52 = .ok (.istore 4, 2) := by decide +kernel
theorem dX7_greatest_54 : decode cX7_greatest 54 = .ok (.iload 4, 2) := by decide +kernel
theorem dX7_greatest_56 : decode cX7_greatest 56 = .ok (.aload_n 0, 1) := by decide +kernel
theorem dX7_greatest_57 : decode cX7_greatest 57 = .ok (.getfield 18, 3) := by decide +kernel
theorem dX7_greatest_60 : decode cX7_greatest 60 = .ok (.if_icmp .ge 26, 3) := by decide +kernel
theorem dX7_greatest_63 : decode cX7_greatest 63 = .ok (.iload_n 3, 1) := by decide +kernel
theorem dX7_greatest_64 : decode cX7_greatest 64 = .ok (.aload_n 0, 1) := by decide +kernel
theorem dX7_greatest_65 : decode cX7_greatest 65 = .ok (.aload_n 1, 1) := by decide +kernel
theorem dX7_greatest_66 : decode cX7_greatest 66 = .ok (.aload_n 0, 1) := by decide +kernel
theorem dX7_greatest_67 : decode cX7_greatest 67 = .ok (.getfield 11, 3) := by decide +kernel
theorem dX7_greatest_70 : decode cX7_greatest 70 = .ok (.iload 4, 2) := by decide +kernel
theorem dX7_greatest_72 : decode cX7_greatest 72 = .ok (.iaload, 1) := by decide +kernel
theorem dX7_greatest_73 : decode cX7_greatest 73 = .ok (.invokevirtual 41, 3) := by decide +kernel
theorem dX7_greatest_76 : decode cX7_greatest 76 = .ok (.invokestatic 35, 3) := by decide +kernel
theorem dX7_greatest_79 : decode cX7_greatest 79 = .ok (.istore_n 3, 1) := by decide +kernel
theorem dX7_greatest_80 : decode cX7_greatest 80 = .ok (.iinc 4 1, 3) := by decide +kernel
theorem dX7_greatest_83 : decode cX7_greatest 83 = .ok (.goto (-29), 3) := by decide +kernel
theorem dX7_greatest_86 : decode cX7_greatest 86 = .ok (.iload_n 3, 1) := by decide +kernel
theorem dX7_greatest_87 : decode cX7_greatest 87 = .ok (.ireturn, 1) := by decide +kernel
set_option maxRecDepth 20000 in
theorem ggX7_pull_X6_has : GoodIn wsX7_pull wsX6_has := goodIn_r _ [8, 9, 14, 15, 16, 17, 18, 19, 20, 21] (by decide +kernel) (by decide +kernel)
set_option maxRecDepth 20000 in
theorem gX7_pull_X6_has : GoodIn wsX7_pull (wsV RX7 45 RX6 yX6_has wsX6_has) := goodIn_app (goodIn_of _ (by decide +kernel)) ggX7_pull_X6_has
theorem dX7_pull_0 : decode cX7_pull 0 = .ok (.aload_n 1, 1) := by decide +kernel
theorem dX7_pull_1 : decode cX7_pull 1 = .ok (.iload_n 2, 1) := by decide +kernel
theorem dX7_pull_2 : decode cX7_pull 2 = .ok (.invokevirtual 45, 3) := by decide +kernel
theorem dX7_pull_5 : decode cX7_pull 5 = .ok (.ifCond .ne 5, 3) := by decide +kernel
theorem dX7_pull_8 : decode cX7_pull 8 = .ok (.iconst 0, 1) := by decide +kernel
theorem dX7_pull_9 : decode cX7_pull 9 = .ok (.ireturn, 1) := by decide +kernel
theorem dX7_pull_10 : decode cX7_pull 10 = .ok (.aload_n 0, 1) := by decide +kernel
theorem dX7_pull_11 : decode cX7_pull 11 = .ok (.dup, 1) := by decide +kernel
theorem dX7_pull_12 : decode cX7_pull 12 = .ok (.getfield 22, 3) := by decide +kernel
theorem dX7_pull_15 : decode cX7_pull 15 = .ok (.iconst 1, 1) := by decide +kernel
theorem dX7_pull_16 : decode cX7_pull 16 = .ok (.iload_n 2, 1) := by decide +kernel
theorem dX7_pull_17 : decode cX7_pull 17 = .ok (.ishl, 1) := by decide +kernel
theorem dX7_pull_18 : decode cX7_pull 18 = .ok (.ior, 1) := by decide +kernel
theorem dX7_pull_19 : decode cX7_pull 19 = .ok (.putfield 22, 3) := by decide +kernel
theorem dX7_pull_22 : decode cX7_pull 22 = .ok (.aload_n 0, 1) := by decide +kernel
theorem dX7_pull_23 : decode cX7_pull 23 = .ok (.getfield 15, 3) := by decide +kernel
theorem dX7_pull_26 : decode cX7_pull 26 = .ok (.iload_n 2, 1) := by decide +kernel
theorem dX7_pull_27 : decode cX7_pull 27 = .ok (.iaload, 1) := by decide +kernel
theorem dX7_pull_28 : decode cX7_pull 28 = .ok (.istore_n 3, 1) := by decide +kernel
theorem dX7_pull_29 : decode cX7_pull 29 = .ok (.aload_n 0, 1) := by decide +kernel
theorem dX7_pull_30 : decode cX7_pull 30 = .ok (.getfield 15, 3) := by decide +kernel
theorem dX7_pull_33 : decode cX7_pull 33 = .ok (.iload_n 2, 1) := by decide +kernel
theorem dX7_pull_34 : decode cX7_pull 34 = .ok (.iconst 0, 1) := by decide +kernel
theorem dX7_pull_35 : decode cX7_pull 35 = .ok (.iastore, 1) := by decide +kernel
theorem dX7_pull_36 : decode cX7_pull 36 = .ok (.iload_n 2, 1) := by decide +kernel
theorem dX7_pull_37 : decode cX7_pull 37 = .ok (.istore 4, 2) := by decide +kernel
theorem dX7_pull_39 : decode cX7_pull 39 = .ok (.iconst 0, 1) := by decide +kernel
theorem dX7_pull_40 : decode cX7_pull 40 = .ok (.istore 5, 2) := by decide +kernel
theorem dX7_pull_42 : decode cX7_pull 42 = .ok (.iload 5, 2) := by decide +kernel
theorem dX7_pull_44 : decode cX7_pull 44 = .ok (.bipush 8, 2) := by decide +kernel
theorem dX7_pull_46 : decode cX7_pull 46 = .ok (.if_icmp .ge 40, 3) := by decide +kernel
theorem dX7_pull_49 : decode cX7_pull 49 = .ok (.aload_n 1, 1) := by decide +kernel
theorem dX7_pull_50 : decode cX7_pull 50 = .ok (.iload 4, 2) := by decide +kernel
theorem dX7_pull_52 : decode cX7_pull 52 = .ok (.invokevirtual 45, 3) := by decide +kernel
theorem dX7_pull_55 : decode cX7_pull 55 = .ok (.ifCond .eq 31, 3) := by decide +kernel
theorem dX7_pull_58 : decode cX7_pull 58 = .ok (.aload_n 0, 1) := by decide +kernel
theorem dX7_pull_59 : decode cX7_pull 59 = .ok (.getfield 22, 3) := by decide +kernel
theorem dX7_pull_62 : decode cX7_pull 62 = .ok (.iload 4, 2) := by decide +kernel
theorem dX7_pull_64 : decode cX7_pull 64 = .ok (.ishr, 1) := by decide +kernel
theorem dX7_pull_65 : decode cX7_pull 65 = .ok (.iconst 1, 1) := by decide +kernel
theorem dX7_pull_66 : decode cX7_pull 66 = .ok (.iand, 1) := by decide +kernel
theorem dX7_pull_67 : decode cX7_pull 67 = .ok (.iconst 1, 1) := by decide +kernel
theorem dX7_pull_68 : decode cX7_pull 68 = .ok (.if_icmp .ne 18, 3) := by decide +kernel
theorem dX7_pull_71 : decode cX7_pull 71 = .ok (.aload_n 1, 1) := by decide +kernel
theorem dX7_pull_72 : decode cX7_pull 72 = .ok (.getfield 49, 3) := by decide +kernel
theorem dX7_pull_75 : decode cX7_pull 75 = .ok (.iload 4, 2) := by decide +kernel
theorem dX7_pull_77 : decode cX7_pull 77 = .ok (.iaload, 1) := by decide +kernel
theorem dX7_pull_78 : decode cX7_pull 78 = .ok (.istore 4, 2) := by decide +kernel
theorem dX7_pull_80 : decode cX7_pull 80 = .ok (.iinc 5 1, 3) := by decide +kernel
theorem dX7_pull_83 : decode cX7_pull 83 = .ok (.goto (-41), 3) := by decide +kernel
theorem dX7_pull_86 : decode cX7_pull 86 = .ok (.aload_n 1, 1) := by decide +kernel
theorem dX7_pull_87 : decode cX7_pull 87 = .ok (.iload 4, 2) := by decide +kernel
theorem dX7_pull_89 : decode cX7_pull 89 = .ok (.invokevirtual 45, 3) := by decide +kernel
theorem dX7_pull_92 : decode cX7_pull 92 = .ok (.ifCond .ne 5, 3) := by decide +kernel
theorem dX7_pull_95 : decode cX7_pull 95 = .ok (.iconst 0, 1) := by decide +kernel
theorem dX7_pull_96 : decode cX7_pull 96 = .ok (.ireturn, 1) := by decide +kernel
theorem dX7_pull_97 : decode cX7_pull 97 = .ok (.aload_n 0, 1) := by decide +kernel
theorem dX7_pull_98 : decode cX7_pull 98 = .ok (.getfield 15, 3) := by decide +kernel
theorem dX7_pull_101 : decode cX7_pull 101 = .ok (.iload 4, 2) := by decide +kernel
theorem dX7_pull_103 : decode cX7_pull 103 = .ok (.dup2, 1) := by decide +kernel
theorem dX7_pull_104 : decode cX7_pull 104 = .ok (.iaload, 1) := by decide +kernel
theorem dX7_pull_105 : decode cX7_pull 105 = .ok (.iload_n 3, 1) := by decide +kernel
theorem dX7_pull_106 : decode cX7_pull 106 = .ok (.iadd, 1) := by decide +kernel
theorem dX7_pull_107 : decode cX7_pull 107 = .ok (.iastore, 1) := by decide +kernel
theorem dX7_pull_108 : decode cX7_pull 108 = .ok (.aload_n 0, 1) := by decide +kernel
theorem dX7_pull_109 : decode cX7_pull 109 = .ok (.getfield 15, 3) := by decide +kernel
theorem dX7_pull_112 : decode cX7_pull 112 = .ok (.iload 4, 2) := by decide +kernel
theorem dX7_pull_114 : decode cX7_pull 114 = .ok (.iaload, 1) := by decide +kernel
theorem dX7_pull_115 : decode cX7_pull 115 = .ok (.ireturn, 1) := by decide +kernel
theorem dX8_init_0 : decode cX8_init 0 = .ok (.aload_n 0, 1) := by decide +kernel
theorem dX8_init_1 : decode cX8_init 1 = .ok (.invokespecial 3, 3) := by decide +kernel
theorem dX8_init_4 : decode cX8_init 4 = .ok (.aload_n 0, 1) := by decide +kernel
theorem dX8_init_5 : decode cX8_init 5 = .ok (.sipush 200, 3) := by decide +kernel
theorem dX8_init_8 : decode cX8_init 8 = .ok (.newarray .int, 2) := by decide +kernel
theorem dX8_init_10 : decode cX8_init 10 = .ok (.putfield 11, 3) := by decide +kernel
theorem dX8_init_13 : decode cX8_init 13 = .ok (.aload_n 0, 1) := by decide +kernel
theorem dX8_init_14 : decode cX8_init 14 = .ok (.iconst 0, 1) := by decide +kernel
theorem dX8_init_15 : decode cX8_init 15 = .ok (.putfield 15, 3) := by decide +kernel
theorem dX8_init_18 : decode cX8_init 18 = .ok (.aload_n 0, 1) := by decide +kernel
theorem dX8_init_19 : decode cX8_init 19 = .ok (.iconst 0, 1) := by decide +kernel
theorem dX8_init_20 : decode cX8_init 20 = .ok (.putfield 19, 3) := by decide +kernel
theorem dX8_init_23 : decode cX8_init 23 = .ok (.aload_n 0, 1) := by decide +kernel
theorem dX8_init_24 : decode cX8_init 24 = .ok (.iconst (-1), 1) := by decide +kernel
theorem dX8_init_25 : decode cX8_init 25 = .ok (.putfield 22, 3) := by decide +kernel
theorem dX8_init_28 : decode cX8_init 28 = .ok (.aload_n 0, 1) := by decide +kernel
theorem dX8_init_29 : decode cX8_init 29 = .ok (.iconst 0, 1) := by decide +kernel
theorem dX8_init_30 : decode cX8_init 30 = .ok (.putfield 25, 3) := by decide +kernel
theorem dX8_init_33 : decode cX8_init 33 = .ok (.return_, 1) := by decide +kernel
theorem dX8_take_0 : decode cX8_take 0 = .ok (.aload_n 0, 1) := by decide +kernel
theorem dX8_take_1 : decode cX8_take 1 = .ok (.getfield 15, 3) := by decide +kernel
theorem dX8_take_4 : decode cX8_take 4 = .ok (.sipush 200, 3) := by decide +kernel
theorem dX8_take_7 : decode cX8_take 7 = .ok (.if_icmp .lt 5, 3) := by decide +kernel
theorem dX8_take_10 : decode cX8_take 10 = .ok (.iconst 0, 1) := by decide +kernel
theorem dX8_take_11 : decode cX8_take 11 = .ok (.ireturn, 1) := by decide +kernel
theorem dX8_take_12 : decode cX8_take 12 = .ok (.aload_n 0, 1) := by decide +kernel
theorem dX8_take_13 : decode cX8_take 13 = .ok (.getfield 11, 3) := by decide +kernel
theorem dX8_take_16 : decode cX8_take 16 = .ok (.aload_n 0, 1) := by decide +kernel
theorem dX8_take_17 : decode cX8_take 17 = .ok (.getfield 15, 3) := by decide +kernel
theorem dX8_take_20 : decode cX8_take 20 = .ok (.iload_n 1, 1) := by decide +kernel
theorem dX8_take_21 : decode cX8_take 21 = .ok (.iastore, 1) := by decide +kernel
theorem dX8_take_22 : decode cX8_take 22 = .ok (.aload_n 0, 1) := by decide +kernel
theorem dX8_take_23 : decode cX8_take 23 = .ok (.dup, 1) := by decide +kernel
theorem dX8_take_24 : decode cX8_take 24 = .ok (.getfield 15, 3) := by decide +kernel
theorem dX8_take_27 : decode cX8_take 27 = .ok (.iconst 1, 1) := by decide +kernel
theorem dX8_take_28 : decode cX8_take 28 = .ok (.iadd, 1) := by decide +kernel
theorem dX8_take_29 : decode cX8_take 29 = .ok (.putfield 15, 3) := by decide +kernel
theorem dX8_take_32 : decode cX8_take 32 = .ok (.iconst 1, 1) := by decide +kernel
theorem dX8_take_33 : decode cX8_take 33 = .ok (.ireturn, 1) := by decide +kernel
theorem dX8_empty_0 : decode cX8_empty 0 = .ok (.aload_n 0, 1) := by decide +kernel
theorem dX8_empty_1 : decode cX8_empty 1 = .ok (.iconst 0, 1) := by decide +kernel
theorem dX8_empty_2 : decode cX8_empty 2 = .ok (.putfield 15, 3) := by decide +kernel
theorem dX8_empty_5 : decode cX8_empty 5 = .ok (.return_, 1) := by decide +kernel
set_option maxRecDepth 20000 in
theorem ggX8_readInto_X6_clear : GoodIn wsX8_readInto wsX6_clear := goodIn_r _ [9, 10, 11, 12, 13, 79, 80, 81, 82, 83, 84, 85, 86] (by decide +kernel) (by decide +kernel)
set_option maxRecDepth 20000 in
theorem gX8_readInto_X6_clear : GoodIn wsX8_readInto (wsV RX8 28 RX6 yX6_clear wsX6_clear) := goodIn_app (goodIn_of _ (by decide +kernel)) ggX8_readInto_X6_clear
set_option maxRecDepth 20000 in
theorem ggX8_readInto_X8_skipBlanks : GoodIn wsX8_readInto wsX8_skipBlanks := goodIn_r _ [18, 1, 4, 19, 74, 75, 76, 77, 78] (by decide +kernel) (by decide +kernel)
set_option maxRecDepth 20000 in
theorem gX8_readInto_X8_skipBlanks : GoodIn wsX8_readInto (wsV RX8 33 RX8 yX8_skipBlanks wsX8_skipBlanks) := goodIn_app (goodIn_of _ (by decide +kernel)) ggX8_readInto_X8_skipBlanks
set_option maxRecDepth 20000 in
theorem ggX8_readInto_X8_readClause : GoodIn wsX8_readInto wsX8_readClause := goodIn_r _ [23, 24, 1, 25, 26, 27, 28, 17, 29, 4, 19, 30, 31, 32, 33, 2, 3, 34, 35, 36, 37, 38, 39, 40, 41, 14, 15, 16, 18, 42, 43, 44, 45, 46, 47, 48, 49, 50, 51, 8, 52, 10, 11, 12, 53, 54, 55, 56, 57, 58, 59, 60, 13, 61, 62, 63, 64, 65, 66, 67, 68, 69, 70, 71, 72, 73, 79, 80, 81, 82, 83, 84, 85, 86, 74, 75, 76, 77, 78] (by decide +kernel) (by decide +kernel)
set_option maxRecDepth 20000 in
theorem gX8_readInto_X8_readClause : GoodIn wsX8_readInto (wsV RX8 36 RX8 yX8_readClause wsX8_readClause) := goodIn_app (goodIn_of _ (by decide +kernel)) ggX8_readInto_X8_readClause
theorem dX8_readInto_0 : decode cX8_readInto 0 = .ok (.aload_n 1, 1) := by decide +kernel
theorem dX8_readInto_1 : decode cX8_readInto 1 = .ok (.invokevirtual 28, 3) := by decide +kernel
theorem dX8_readInto_4 : decode cX8_readInto 4 = .ok (.aload_n 0, 1) := by decide +kernel
theorem dX8_readInto_5 : decode cX8_readInto 5 = .ok (.iconst 0, 1) := by decide +kernel
theorem dX8_readInto_6 : decode cX8_readInto 6 = .ok (.putfield 25, 3) := by decide +kernel
theorem dX8_readInto_9 : decode cX8_readInto 9 = .ok (.aload_n 0, 1) := by decide +kernel
theorem dX8_readInto_10 : decode cX8_readInto 10 = .ok (.iconst 0, 1) := by decide +kernel
theorem dX8_readInto_11 : decode cX8_readInto 11 = .ok (.putfield 19, 3) := by decide +kernel
theorem dX8_readInto_14 : decode cX8_readInto 14 = .ok (.aload_n 0, 1) := by decide +kernel
theorem dX8_readInto_15 : decode cX8_readInto 15 = .ok (.iconst (-1), 1) := by decide +kernel
theorem dX8_readInto_16 : decode cX8_readInto 16 = .ok (.putfield 22, 3) := by decide +kernel
theorem dX8_readInto_19 : decode cX8_readInto 19 = .ok (.iconst 0, 1) := by decide +kernel
theorem dX8_readInto_20 : decode cX8_readInto 20 = .ok (.istore_n 2, 1) := by decide +kernel
theorem dX8_readInto_21 : decode cX8_readInto 21 = .ok (.iload_n 2, 1) := by decide +kernel
theorem dX8_readInto_22 : decode cX8_readInto 22 = .ok (.sipush 200, 3) := by decide +kernel
theorem dX8_readInto_25 : decode cX8_readInto 25 = .ok (.if_icmp .ge 39, 3) := by decide +kernel
theorem dX8_readInto_28 : decode cX8_readInto 28 = .ok (.aload_n 0, 1) := by decide +kernel
theorem dX8_readInto_29 : decode cX8_readInto 29 = .ok (.getfield 19, 3) := by decide +kernel
theorem dX8_readInto_32 : decode cX8_readInto 32 = .ok (.ifCond .ne 32, 3) := by decide +kernel
theorem dX8_readInto_35 : decode cX8_readInto 35 = .ok (.aload_n 0, 1) := by decide +kernel
theorem dX8_readInto_36 : decode cX8_readInto 36 = .ok (.invokevirtual 33, 3) := by decide +kernel
theorem dX8_readInto_39 : decode cX8_readInto 39 = .ok (.aload_n 0, 1) := by decide +kernel
theorem dX8_readInto_40 : decode cX8_readInto 40 = .ok (.getfield 25, 3) := by decide +kernel
theorem dX8_readInto_43 : decode cX8_readInto 43 = .ok (.aload_n 0, 1) := by decide +kernel
theorem dX8_readInto_44 : decode cX8_readInto 44 = .ok (.getfield 15, 3) := by decide +kernel
theorem dX8_readInto_47 : decode cX8_readInto 47 = .ok (.if_icmp .lt 6, 3) := by decide +kernel
theorem dX8_readInto_50 : decode cX8_readInto 50 = .ok (.goto 14, 3) := by decide +kernel
theorem dX8_readInto_53 : decode cX8_readInto 53 = .ok (.aload_n 0, 1) := by decide +kernel
theorem dX8_readInto_54 : decode cX8_readInto 54 = .ok (.aload_n 1, 1) := by decide +kernel
theorem dX8_readInto_55 : decode cX8_readInto 55 = .ok (.invokevirtual 36, 3) := by decide +kernel
theorem dX8_readInto_58 : decode cX8_readInto 58 = .ok (.iinc 2 1, 3) := by decide +kernel
theorem dX8_readInto_61 : decode cX8_readInto 61 = .ok (.goto (-40), 3) := by decide +kernel
theorem dX8_readInto_64 : decode cX8_readInto 64 = .ok (.return_, 1) := by decide +kernel
set_option maxRecDepth 20000 in
theorem ggX8_readClause_X8_letterHere : GoodIn wsX8_readClause wsX8_letterHere := goodIn_r _ [8, 2, 9, 10, 74, 75, 76, 77, 78] (by decide +kernel) (by decide +kernel)
set_option maxRecDepth 20000 in
theorem gX8_readClause_X8_letterHere : GoodIn wsX8_readClause (wsV RX8 40 RX8 yX8_letterHere wsX8_letterHere) := goodIn_app (goodIn_of _ (by decide +kernel)) ggX8_readClause_X8_letterHere
set_option maxRecDepth 20000 in
theorem ggX8_readClause_X8_blame : GoodIn wsX8_readClause wsX8_blame := goodIn_r _ [14, 15, 16, 74, 75, 76, 77, 78] (by decide +kernel) (by decide +kernel)
set_option maxRecDepth 20000 in
theorem gX8_readClause_X8_blame : GoodIn wsX8_readClause (wsV RX8 48 RX8 yX8_blame wsX8_blame) := goodIn_app (goodIn_of _ (by decide +kernel)) ggX8_readClause_X8_blame
set_option maxRecDepth 20000 in
theorem ggX8_readClause_X8_readLent : GoodIn wsX8_readClause wsX8_readLent := goodIn_r _ [20, 2, 15, 21, 22, 23, 7, 24, 9, 10, 25, 26, 27, 28, 29, 30, 31, 11, 12, 13, 14, 16, 32, 33, 34, 35, 4, 5, 6, 8, 36, 37, 38, 39, 40, 41, 42, 43, 74, 75, 76, 77, 78, 66, 67, 68, 69, 70, 71, 72, 73] (by decide +kernel) (by decide +kernel)
set_option maxRecDepth 20000 in
theorem gX8_readClause_X8_readLent : GoodIn wsX8_readClause (wsV RX8 55 RX8 yX8_readLent wsX8_readLent) := goodIn_app (goodIn_of _ (by decide +kernel)) ggX8_readClause_X8_readLent
set_option maxRecDepth 20000 in
theorem ggX8_readClause_X8_readHouse : GoodIn wsX8_readClause wsX8_readHouse := goodIn_r _ [47, 2, 15, 21, 22, 23, 7, 24, 9, 10, 25, 26, 27, 28, 29, 30, 31, 11, 12, 13, 14, 16, 48, 49, 50, 39, 51, 52, 32, 33, 34, 35, 4, 5, 6, 8, 53, 54, 55, 56, 57, 58, 59, 60, 61, 62, 63, 64, 65, 74, 75, 76, 77, 78, 66, 67, 68, 69, 70, 71, 72, 73] (by decide +kernel) (by decide +kernel)
set_option maxRecDepth 20000 in
theorem gX8_readClause_X8_readHouse : GoodIn wsX8_readClause (wsV RX8 58 RX8 yX8_readHouse wsX8_readHouse) := goodIn_app (goodIn_of _ (by decide +kernel)) ggX8_readClause_X8_readHouse
theorem dX8_readClause_0 : decode cX8_readClause 0 = .ok (.aload_n 0, 1) := by decide +kernel
theorem dX8_readClause_1 : decode cX8_readClause 1 = .ok (.bipush 116, 2) := by decide +kernel
theorem dX8_readClause_3 : decode cX8_readClause 3 = .ok (.invokevirtual 40, 3) := by decide +kernel
theorem dX8_readClause_6 : decode cX8_readClause 6 = .ok (.istore_n 2, 1) := by decide +kernel
theorem dX8_readClause_7 : decode cX8_readClause 7 = .ok (.aload_n 0, 1) := by decide +kernel
theorem dX8_readClause_8 : decode cX8_readClause 8 = .ok (.bipush 104, 2) := by decide +kernel
theorem dX8_readClause_10 : decode cX8_readClause 10 = .ok (.invokevirtual 40, 3) := by decide +kernel
theorem dX8_readClause_13 : decode cX8_readClause 13 = .ok (.ifCond .eq 14, 3) := by decide +kernel
theorem dX8_readClause_16 : decode cX8_readClause 16 = .ok (.aload_n 1, 1) := by decide +kernel
theorem dX8_readClause_17 : decode cX8_readClause 17 = .ok (.getfield 44, 3) := by decide +kernel
theorem dX8_readClause_20 : decode cX8_readClause 20 = .ok (.ifCond .eq 7, 3) := by decide +kernel
theorem dX8_readClause_23 : decode cX8_readClause 23 = .ok (.iconst 1, 1) := by decide +kernel
theorem dX8_readClause_24 : decode cX8_readClause 24 = .ok (.goto 4, 3) := by decide +kernel
theorem dX8_readClause_27 : decode cX8_readClause 27 = .ok (.iconst 0, 1) := by decide +kernel
theorem dX8_readClause_28 : decode cX8_readClause 28 = .ok (.istore_n 3, 1) := by decide +kernel
theorem dX8_readClause_29 : decode cX8_readClause 29 = .ok (.iload_n 2, 1) := by decide +kernel
theorem dX8_readClause_30 : decode cX8_readClause 30 = .ok (.ifCond .ne 19, 3) := by decide +kernel
theorem dX8_readClause_33 : decode cX8_readClause 33 = .ok (.iload_n 3, 1) := by decide +kernel
theorem dX8_readClause_34 : decode cX8_readClause 34 = .ok (.ifCond .ne 15, 3) := by decide +kernel
theorem dX8_readClause_37 : decode cX8_readClause 37 = .ok (.aload_n 0, 1) := by decide +kernel
theorem dX8_readClause_38 : decode cX8_readClause 38 = .ok (.iconst 1, 1) := by decide +kernel
theorem dX8_readClause_39 : decode cX8_readClause 39 = .ok (.aload_n 0, 1) := by decide +kernel
theorem dX8_readClause_40 : decode cX8_readClause 40 = .ok (.getfield 25, 3) := by decide +kernel
theorem dX8_readClause_43 : decode cX8_readClause 43 = .ok (.invokevirtual 48, 3) := by decide +kernel
theorem dX8_readClause_46 : decode cX8_readClause 46 = .ok (.goto 55, 3) := by decide +kernel
theorem dX8_readClause_49 : decode cX8_readClause 49 = .ok (.iload_n 2, 1) := by decide +kernel
theorem dX8_readClause_50 : decode cX8_readClause 50 = .ok (.ifCond .eq 13, 3) := by decide +kernel
theorem dX8_readClause_53 : decode cX8_readClause 53 = .ok (.aload_n 1, 1) := by decide +kernel
theorem dX8_readClause_54 : decode cX8_readClause 54 = .ok (.getfield 44, 3) := by decide +kernel
theorem dX8_readClause_57 : decode cX8_readClause 57 = .ok (.ifCond .eq 27, 3) := by decide +kernel
theorem dX8_readClause_60 : decode cX8_readClause 60 = .ok (.goto 12, 3) := by decide +kernel
theorem dX8_readClause_63 : decode cX8_readClause 63 = .ok (.aload_n 1, 1) := by decide +kernel
theorem dX8_readClause_64 : decode cX8_readClause 64 = .ok (.getfield 52, 3) := by decide +kernel
theorem dX8_readClause_67 : decode cX8_readClause 67 = .ok (.bipush 8, 2) := by decide +kernel
theorem dX8_readClause_69 : decode cX8_readClause 69 = .ok (.if_icmp .lt 15, 3) := by decide +kernel
theorem dX8_readClause_72 : decode cX8_readClause 72 = .ok (.aload_n 0, 1) := by decide +kernel
theorem dX8_readClause_73 : decode cX8_readClause 73 = .ok (.iconst 3, 1) := by decide +kernel
theorem dX8_readClause_74 : decode cX8_readClause 74 = .ok (.aload_n 0, 1) := by decide +kernel
theorem dX8_readClause_75 : decode cX8_readClause 75 = .ok (.getfield 25, 3) := by decide +kernel
theorem dX8_readClause_78 : decode cX8_readClause 78 = .ok (.invokevirtual 48, 3) := by decide +kernel
theorem dX8_readClause_81 : decode cX8_readClause 81 = .ok (.goto 20, 3) := by decide +kernel
theorem dX8_readClause_84 : decode cX8_readClause 84 = .ok (.iload_n 2, 1) := by decide +kernel
theorem dX8_readClause_85 : decode cX8_readClause 85 = .ok (.ifCond .eq 11, 3) := by decide +kernel
theorem dX8_readClause_88 : decode cX8_readClause 88 = .ok (.aload_n 0, 1) := by decide +kernel
theorem dX8_readClause_89 : decode cX8_readClause 89 = .ok (.aload_n 1, 1) := by decide +kernel
theorem dX8_readClause_90 : decode cX8_readClause 90 = .ok (.invokevirtual 55, 3) := by decide +kernel
theorem dX8_readClause_93 : decode cX8_readClause 93 = .ok (.goto 8, 3) := by decide +kernel
theorem dX8_readClause_96 : decode cX8_readClause 96 = .ok (.aload_n 0, 1) := by decide +kernel
theorem dX8_readClause_97 : decode cX8_readClause 97 = .ok (.aload_n 1, 1) := by decide +kernel
theorem dX8_readClause_98 : decode cX8_readClause 98 = .ok (.invokevirtual 58, 3) := by decide +kernel
theorem dX8_readClause_101 : decode cX8_readClause 101 = .ok (.return_, 1) := by decide +kernel
set_option maxRecDepth 20000 in
theorem ggX8_readLent_X8_readNumber : GoodIn wsX8_readLent wsX8_readNumber := goodIn_r _ [7, 1, 8, 9, 10, 11, 12, 6, 13, 14, 15, 16, 17, 18, 19, 20, 2, 21, 38, 39, 40, 41, 42] (by decide +kernel) (by decide +kernel)
set_option maxRecDepth 20000 in
theorem gX8_readLent_X8_readNumber : GoodIn wsX8_readLent (wsV RX8 61 RX8 yX8_readNumber wsX8_readNumber) := goodIn_app (goodIn_of _ (by decide +kernel)) ggX8_readLent_X8_readNumber
set_option maxRecDepth 20000 in
theorem ggX8_readLent_X8_readEnd : GoodIn wsX8_readLent wsX8_readEnd := goodIn_r _ [25, 1, 10, 11, 12, 6, 13, 8, 9, 26, 27, 28, 29, 17, 18, 19, 20, 2, 21, 38, 39, 40, 41, 42] (by decide +kernel) (by decide +kernel)
set_option maxRecDepth 20000 in
theorem gX8_readLent_X8_readEnd : GoodIn wsX8_readLent (wsV RX8 65 RX8 yX8_readEnd wsX8_readEnd) := goodIn_app (goodIn_of _ (by decide +kernel)) ggX8_readLent_X8_readEnd
set_option maxRecDepth 20000 in
theorem ggX8_readLent_X6_begin : GoodIn wsX8_readLent wsX6_begin := goodIn_r _ [34, 35, 36, 37, 43, 44, 45, 46, 47, 48, 49, 50] (by decide +kernel) (by decide +kernel)
set_option maxRecDepth 20000 in
theorem gX8_readLent_X6_begin : GoodIn wsX8_readLent (wsV RX8 68 RX6 yX6_begin wsX6_begin) := goodIn_app (goodIn_of _ (by decide +kernel)) ggX8_readLent_X6_begin
theorem dX8_readLent_0 : decode cX8_readLent 0 = .ok (.aload_n 0, 1) := by decide +kernel
theorem dX8_readLent_1 : decode cX8_readLent 1 = .ok (.dup, 1) := by decide +kernel
theorem dX8_readLent_2 : decode cX8_readLent 2 = .ok (.getfield 25, 3) := by decide +kernel
theorem dX8_readLent_5 : decode cX8_readLent 5 = .ok (.iconst 1, 1) := by decide +kernel
theorem dX8_readLent_6 : decode cX8_readLent 6 = .ok (.iadd, 1) := by decide +kernel
theorem dX8_readLent_7 : decode cX8_readLent 7 = .ok (.putfield 25, 3) := by decide +kernel
theorem dX8_readLent_10 : decode cX8_readLent 10 = .ok (.aload_n 0, 1) := by decide +kernel
theorem dX8_readLent_11 : decode cX8_readLent 11 = .ok (.iconst 1, 1) := by decide +kernel
theorem dX8_readLent_12 : decode cX8_readLent 12 = .ok (.bipush 60, 2) := by decide +kernel
theorem dX8_readLent_14 : decode cX8_readLent 14 = .ok (.invokevirtual 61, 3) := by decide +kernel
theorem dX8_readLent_17 : decode cX8_readLent 17 = .ok (.istore_n 2, 1) := by decide +kernel
theorem dX8_readLent_18 : decode cX8_readLent 18 = .ok (.aload_n 0, 1) := by decide +kernel
theorem dX8_readLent_19 : decode cX8_readLent 19 = .ok (.iconst 1, 1) := by decide +kernel
theorem dX8_readLent_20 : decode cX8_readLent 20 = .ok (.bipush 99, 2) := by decide +kernel
theorem dX8_readLent_22 : decode cX8_readLent 22 = .ok (.invokevirtual 61, 3) := by decide +kernel
theorem dX8_readLent_25 : decode cX8_readLent 25 = .ok (.istore_n 3, 1) := by decide +kernel
theorem dX8_readLent_26 : decode cX8_readLent 26 = .ok (.aload_n 0, 1) := by decide +kernel
theorem dX8_readLent_27 : decode cX8_readLent 27 = .ok (.invokevirtual 65, 3) := by decide +kernel
theorem dX8_readLent_30 : decode cX8_readLent 30 = .ok (.aload_n 0, 1) := by decide +kernel
theorem dX8_readLent_31 : decode cX8_readLent 31 = .ok (.getfield 19, 3) := by decide +kernel
theorem dX8_readLent_34 : decode cX8_readLent 34 = .ok (.ifCond .ne 9, 3) := by decide +kernel
theorem dX8_readLent_37 : decode cX8_readLent 37 = .ok (.aload_n 1, 1) := by decide +kernel
theorem dX8_readLent_38 : decode cX8_readLent 38 = .ok (.iload_n 2, 1) := by decide +kernel
theorem dX8_readLent_39 : decode cX8_readLent 39 = .ok (.iload_n 3, 1) := by decide +kernel
theorem dX8_readLent_40 : decode cX8_readLent 40 = .ok (.invokevirtual 68, 3) := by decide +kernel
theorem dX8_readLent_43 : decode cX8_readLent 43 = .ok (.return_, 1) := by decide +kernel
set_option maxRecDepth 20000 in
theorem ggX8_readHouse_X8_readNumber : GoodIn wsX8_readHouse wsX8_readNumber := goodIn_r _ [7, 1, 8, 9, 10, 11, 12, 6, 13, 14, 15, 16, 17, 18, 19, 20, 2, 21, 49, 50, 51, 52, 53] (by decide +kernel) (by decide +kernel)
set_option maxRecDepth 20000 in
theorem gX8_readHouse_X8_readNumber : GoodIn wsX8_readHouse (wsV RX8 61 RX8 yX8_readNumber wsX8_readNumber) := goodIn_app (goodIn_of _ (by decide +kernel)) ggX8_readHouse_X8_readNumber
set_option maxRecDepth 20000 in
theorem ggX8_readHouse_X8_skipBlanks : GoodIn wsX8_readHouse wsX8_skipBlanks := goodIn_r _ [13, 1, 8, 9, 49, 50, 51, 52, 53] (by decide +kernel) (by decide +kernel)
set_option maxRecDepth 20000 in
theorem gX8_readHouse_X8_skipBlanks : GoodIn wsX8_readHouse (wsV RX8 33 RX8 yX8_skipBlanks wsX8_skipBlanks) := goodIn_app (goodIn_of _ (by decide +kernel)) ggX8_readHouse_X8_skipBlanks
set_option maxRecDepth 20000 in
theorem ggX8_readHouse_X6_has : GoodIn wsX8_readHouse wsX6_has := goodIn_r _ [26, 27, 54, 55, 56, 57, 58, 59, 60, 61] (by decide +kernel) (by decide +kernel)
set_option maxRecDepth 20000 in
theorem gX8_readHouse_X6_has : GoodIn wsX8_readHouse (wsV RX8 71 RX6 yX6_has wsX6_has) := goodIn_app (goodIn_of _ (by decide +kernel)) ggX8_readHouse_X6_has
set_option maxRecDepth 20000 in
theorem ggX8_readHouse_X8_blame : GoodIn wsX8_readHouse wsX8_blame := goodIn_r _ [20, 2, 21, 49, 50, 51, 52, 53] (by decide +kernel) (by decide +kernel)
set_option maxRecDepth 20000 in
theorem gX8_readHouse_X8_blame : GoodIn wsX8_readHouse (wsV RX8 48 RX8 yX8_blame wsX8_blame) := goodIn_app (goodIn_of _ (by decide +kernel)) ggX8_readHouse_X8_blame
set_option maxRecDepth 20000 in
theorem ggX8_readHouse_X8_readEnd : GoodIn wsX8_readHouse wsX8_readEnd := goodIn_r _ [31, 1, 10, 11, 12, 6, 13, 8, 9, 32, 33, 34, 35, 17, 18, 19, 20, 2, 21, 49, 50, 51, 52, 53] (by decide +kernel) (by decide +kernel)
set_option maxRecDepth 20000 in
theorem gX8_readHouse_X8_readEnd : GoodIn wsX8_readHouse (wsV RX8 65 RX8 yX8_readEnd wsX8_readEnd) := goodIn_app (goodIn_of _ (by decide +kernel)) ggX8_readHouse_X8_readEnd
set_option maxRecDepth 20000 in
theorem ggX8_readHouse_X6_addHouse : GoodIn wsX8_readHouse wsX6_addHouse := goodIn_r _ [39, 27, 40, 41, 42, 43, 44, 23, 24, 25, 26, 45, 46, 47, 48, 54, 55, 56, 57, 58, 59, 60, 61] (by decide +kernel) (by decide +kernel)
set_option maxRecDepth 20000 in
theorem gX8_readHouse_X6_addHouse : GoodIn wsX8_readHouse (wsV RX8 74 RX6 yX6_addHouse wsX6_addHouse) := goodIn_app (goodIn_of _ (by decide +kernel)) ggX8_readHouse_X6_addHouse
theorem dX8_readHouse_0 : decode cX8_readHouse 0 = .ok (.aload_n 0, 1) := by decide +kernel
theorem dX8_readHouse_1 : decode cX8_readHouse 1 = .ok (.dup, 1) := by decide +kernel
theorem dX8_readHouse_2 : decode cX8_readHouse 2 = .ok (.getfield 25, 3) := by decide +kernel
theorem dX8_readHouse_5 : decode cX8_readHouse 5 = .ok (.iconst 1, 1) := by decide +kernel
theorem dX8_readHouse_6 : decode cX8_readHouse 6 = .ok (.iadd, 1) := by decide +kernel
theorem dX8_readHouse_7 : decode cX8_readHouse 7 = .ok (.putfield 25, 3) := by decide +kernel
theorem dX8_readHouse_10 : decode cX8_readHouse 10 = .ok (.aload_n 0, 1) := by decide +kernel
theorem dX8_readHouse_11 : decode cX8_readHouse 11 = .ok (.iconst 0, 1) := by decide +kernel
theorem dX8_readHouse_12 : decode cX8_readHouse 12 = .ok (.sipush 999, 3) := by decide +kernel
theorem dX8_readHouse_15 : decode cX8_readHouse 15 = .ok (.invokevirtual 61, 3) := by decide +kernel
theorem dX8_readHouse_18 : decode cX8_readHouse 18 = .ok (.istore_n 2, 1) := by decide +kernel
theorem dX8_readHouse_19 : decode cX8_readHouse 19 = .ok (.aload_n 0, 1) := by decide +kernel
theorem dX8_readHouse_20 : decode cX8_readHouse 20 = .ok (.iconst 0, 1) := by decide +kernel
theorem dX8_readHouse_21 : decode cX8_readHouse 21 = .ok (.bipush 99, 2) := by decide +kernel
theorem dX8_readHouse_23 : decode cX8_readHouse 23 = .ok (.invokevirtual 61, 3) := by decide +kernel
theorem dX8_readHouse_26 : decode cX8_readHouse 26 = .ok (.istore_n 3, 1) := by decide +kernel
theorem dX8_readHouse_27 : decode cX8_readHouse 27 = .ok (.aload_n 0, 1) := by decide +kernel
theorem dX8_readHouse_28 : decode cX8_readHouse 28 = .ok (.invokevirtual 33, 3) := by decide +kernel
theorem dX8_readHouse_31 : decode cX8_readHouse 31 = .ok (.aload_n 0, 1) := by decide +kernel
theorem dX8_readHouse_32 : decode cX8_readHouse 32 = .ok (.getfield 25, 3) := by decide +kernel
theorem dX8_readHouse_35 : decode cX8_readHouse 35 = .ok (.istore 4, 2) := by decide +kernel
theorem dX8_readHouse_37 : decode cX8_readHouse 37 = .ok (.aload_n 0, 1) := by decide +kernel
theorem dX8_readHouse_38 : decode cX8_readHouse 38 = .ok (.iconst 0, 1) := by decide +kernel
theorem dX8_readHouse_39 : decode cX8_readHouse 39 = .ok (.bipush 9, 2) := by decide +kernel
theorem dX8_readHouse_41 : decode cX8_readHouse 41 = .ok (.invokevirtual 61, 3) := by decide +kernel
theorem dX8_readHouse_44 : decode cX8_readHouse 44 = .ok (.istore 5, 2) := by decide +kernel
theorem dX8_readHouse_46 : decode cX8_readHouse 46 = .ok (.iload 5, 2) := by decide +kernel
theorem dX8_readHouse_48 : decode cX8_readHouse 48 = .ok (.bipush 9, 2) := by decide +kernel
theorem dX8_readHouse_50 : decode cX8_readHouse 50 = .ok (.if_icmp .eq 19, 3) := by decide +kernel
theorem dX8_readHouse_53 : decode cX8_readHouse 53 = .ok (.aload_n 1, 1) := by decide +kernel
theorem dX8_readHouse_54 : decode cX8_readHouse 54 = .ok (.iload 5, 2) := by decide +kernel
theorem dX8_readHouse_56 : decode cX8_readHouse 56 = .ok (.invokevirtual 71, 3) := by decide +kernel
theorem dX8_readHouse_59 : decode cX8_readHouse 59 = .ok (.ifCond .ne 10, 3) := by decide +kernel
theorem dX8_readHouse_62 : decode cX8_readHouse 62 = .ok (.aload_n 0, 1) := by decide +kernel
theorem dX8_readHouse_63 : decode cX8_readHouse 63 = .ok (.iconst 2, 1) := by decide +kernel
theorem dX8_readHouse_64 : decode cX8_readHouse 64 = .ok (.iload 4, 2) := by decide +kernel
theorem dX8_readHouse_66 : decode cX8_readHouse 66 = .ok (.invokevirtual 48, 3) := by decide +kernel
theorem dX8_readHouse_69 : decode cX8_readHouse 69 = .ok (.aload_n 0, 1) := by decide +kernel
theorem dX8_readHouse_70 : decode cX8_readHouse 70 = .ok (.invokevirtual 65, 3) := by decide +kernel
theorem dX8_readHouse_73 : decode cX8_readHouse 73 = .ok (.aload_n 0, 1) := by decide +kernel
theorem dX8_readHouse_74 : decode cX8_readHouse 74 = .ok (.getfield 19, 3) := by decide +kernel
theorem dX8_readHouse_77 : decode cX8_readHouse 77 = .ok (.ifCond .ne 11, 3) := by decide +kernel
theorem dX8_readHouse_80 : decode cX8_readHouse 80 = .ok (.aload_n 1, 1) := by decide +kernel
theorem dX8_readHouse_81 : decode cX8_readHouse 81 = .ok (.iload_n 2, 1) := by decide +kernel
theorem dX8_readHouse_82 : decode cX8_readHouse 82 = .ok (.iload_n 3, 1) := by decide +kernel
theorem dX8_readHouse_83 : decode cX8_readHouse 83 = .ok (.iload 5, 2) := by decide +kernel
theorem dX8_readHouse_85 : decode cX8_readHouse 85 = .ok (.invokevirtual 74, 3) := by decide +kernel
theorem dX8_readHouse_88 : decode cX8_readHouse 88 = .ok (.return_, 1) := by decide +kernel
set_option maxRecDepth 20000 in
theorem ggX8_readNumber_X8_skipBlanks : GoodIn wsX8_readNumber wsX8_skipBlanks := goodIn_r _ [8, 1, 2, 3, 18, 19, 20, 21, 22] (by decide +kernel) (by decide +kernel)
set_option maxRecDepth 20000 in
theorem gX8_readNumber_X8_skipBlanks : GoodIn wsX8_readNumber (wsV RX8 33 RX8 yX8_skipBlanks wsX8_skipBlanks) := goodIn_app (goodIn_of _ (by decide +kernel)) ggX8_readNumber_X8_skipBlanks
set_option maxRecDepth 20000 in
theorem ggX8_readNumber_X8_isFigure : GoodIn wsX8_readNumber wsX8_isFigure := goodIn_r _ [11] (by decide +kernel) (by decide +kernel)
set_option maxRecDepth 20000 in
theorem gX8_readNumber_X8_isFigure : GoodIn wsX8_readNumber (va_wsS RX8 78 yX8_isFigure wsX8_isFigure) := goodIn_app (goodIn_of _ (by decide +kernel)) ggX8_readNumber_X8_isFigure
set_option maxRecDepth 20000 in
theorem ggX8_readNumber_X8_blame : GoodIn wsX8_readNumber wsX8_blame := goodIn_r _ [15, 16, 17, 18, 19, 20, 21, 22] (by decide +kernel) (by decide +kernel)
set_option maxRecDepth 20000 in
theorem gX8_readNumber_X8_blame : GoodIn wsX8_readNumber (wsV RX8 48 RX8 yX8_blame wsX8_blame) := goodIn_app (goodIn_of _ (by decide +kernel)) ggX8_readNumber_X8_blame
theorem dX8_readNumber_0 : decode cX8_readNumber 0 = .ok (.aload_n 0, 1) := by decide +kernel
theorem dX8_readNumber_1 : decode cX8_readNumber 1 = .ok (.invokevirtual 33, 3) := by decide +kernel
theorem dX8_readNumber_4 : decode cX8_readNumber 4 = .ok (.aload_n 0, 1) := by decide +kernel
theorem dX8_readNumber_5 : decode cX8_readNumber 5 = .ok (.getfield 25, 3) := by decide +kernel
theorem dX8_readNumber_8 : decode cX8_readNumber 8 = .ok (.istore_n 3, 1) := by decide +kernel
theorem dX8_readNumber_9 : decode cX8_readNumber 9 = .ok (.iconst 0, 1) := by decide +kernel
theorem dX8_readNumber_10 : decode cX8_readNumber 10 = .ok (.istore 4, 2) := by decide +kernel
theorem dX8_readNumber_12 : decode cX8_readNumber 12 = .ok (.aload_n 0, 1) := by decide +kernel
theorem dX8_readNumber_13 : decode cX8_readNumber 13 = .ok (.getfield 25, 3) := by decide +kernel
theorem dX8_readNumber_16 : decode cX8_readNumber 16 = .ok (.aload_n 0, 1) := by decide +kernel
theorem dX8_readNumber_17 : decode cX8_readNumber 17 = .ok (.getfield 15, 3) := by decide +kernel
theorem dX8_readNumber_20 : decode cX8_readNumber 20 = .ok (.if_icmp .ge 61, 3) := by decide +kernel
theorem dX8_readNumber_23 : decode cX8_readNumber 23 = .ok (.aload_n 0, 1) := by decide +kernel
theorem dX8_readNumber_24 : decode cX8_readNumber 24 = .ok (.getfield 11, 3) := by decide +kernel
theorem dX8_readNumber_27 : decode cX8_readNumber 27 = .ok (.aload_n 0, 1) := by decide +kernel
theorem dX8_readNumber_28 : decode cX8_readNumber 28 = .ok (.getfield 25, 3) := by decide +kernel
theorem dX8_readNumber_31 : decode cX8_readNumber 31 = .ok (.iaload, 1) := by decide +kernel
theorem dX8_readNumber_32 : decode cX8_readNumber 32 = .ok (.invokestatic 78, 3) := by decide +kernel
theorem dX8_readNumber_35 : decode cX8_readNumber 35 = .ok (.ifCond .eq 46, 3) := by decide +kernel
theorem dX8_readNumber_38 : decode cX8_readNumber 38 = .ok (.aload_n 0, 1) := by decide +kernel
theorem dX8_readNumber_39 : decode cX8_readNumber 39 = .ok (.getfield 25, 3) := by decide +kernel
theorem dX8_readNumber_42 : decode cX8_readNumber 42 = .ok (.iload_n 3, 1) := by decide +kernel
theorem dX8_readNumber_43 : decode cX8_readNumber 43 = .ok (.isub, 1) := by decide +kernel
theorem dX8_readNumber_44 : decode cX8_readNumber 44 = .ok (.iconst 3, 1) := by decide +kernel
theorem dX8_readNumber_45 : decode cX8_readNumber 45 = .ok (.if_icmp .ge 23, 3) := by decide +kernel
theorem dX8_readNumber_48 : decode cX8_readNumber 48 = .ok (.iload 4, 2) := by decide +kernel
theorem dX8_readNumber_50 : decode cX8_readNumber 50 = .ok (.bipush 10, 2) := by decide +kernel
theorem dX8_readNumber_52 : decode cX8_readNumber 52 = .ok (.imul, 1) := by decide +kernel
theorem dX8_readNumber_53 : decode cX8_readNumber 53 = .ok (.aload_n 0, 1) := by decide +kernel
theorem dX8_readNumber_54 : decode cX8_readNumber 54 = .ok (.getfield 11, 3) := by decide +kernel
theorem dX8_readNumber_57 : decode cX8_readNumber 57 = .ok (.aload_n 0, 1) := by decide +kernel
theorem dX8_readNumber_58 : decode cX8_readNumber 58 = .ok (.getfield 25, 3) := by decide +kernel
theorem dX8_readNumber_61 : decode cX8_readNumber 61 = .ok (.iaload, 1) := by decide +kernel
theorem dX8_readNumber_62 : decode cX8_readNumber 62 = .ok (.iadd, 1) := by decide +kernel
theorem dX8_readNumber_63 : decode cX8_readNumber 63 = .ok (.bipush 48, 2) := by decide +kernel
theorem dX8_readNumber_65 : decode cX8_readNumber 65 = .ok (.isub, 1) := by decide +kernel
theorem dX8_readNumber_66 : decode cX8_readNumber 66 = .ok (.istore 4, 2) := by decide +kernel
theorem dX8_readNumber_68 : decode cX8_readNumber 68 = .ok (.aload_n 0, 1) := by decide +kernel
theorem dX8_readNumber_69 : decode cX8_readNumber 69 = .ok (.dup, 1) := by decide +kernel
theorem dX8_readNumber_70 : decode cX8_readNumber 70 = .ok (.getfield 25, 3) := by decide +kernel
theorem dX8_readNumber_73 : decode cX8_readNumber 73 = .ok (.iconst 1, 1) := by decide +kernel
theorem dX8_readNumber_74 : decode cX8_readNumber 74 = .ok (.iadd, 1) := by decide +kernel
theorem dX8_readNumber_75 : decode cX8_readNumber 75 = .ok (.putfield 25, 3) := by decide +kernel
theorem dX8_readNumber_78 : decode cX8_readNumber 78 = .ok (.goto (-66), 3) := by decide +kernel
theorem dX8_readNumber_81 : decode cX8_readNumber 81 = .ok (.aload_n 0, 1) := by decide +kernel
theorem dX8_readNumber_82 : decode cX8_readNumber 82 = .ok (.getfield 25, 3) := by decide +kernel
theorem dX8_readNumber_85 : decode cX8_readNumber 85 = .ok (.iload_n 3, 1) := by decide +kernel
theorem dX8_readNumber_86 : decode cX8_readNumber 86 = .ok (.if_icmp .ne 12, 3) := by decide +kernel
theorem dX8_readNumber_89 : decode cX8_readNumber 89 = .ok (.aload_n 0, 1) := by decide +kernel
theorem dX8_readNumber_90 : decode cX8_readNumber 90 = .ok (.iconst 1, 1) := by decide +kernel
theorem dX8_readNumber_91 : decode cX8_readNumber 91 = .ok (.iload_n 3, 1) := by decide +kernel
theorem dX8_readNumber_92 : decode cX8_readNumber 92 = .ok (.invokevirtual 48, 3) := by decide +kernel
theorem dX8_readNumber_95 : decode cX8_readNumber 95 = .ok (.goto 31, 3) := by decide +kernel
theorem dX8_readNumber_98 : decode cX8_readNumber 98 = .ok (.aload_n 0, 1) := by decide +kernel
theorem dX8_readNumber_99 : decode cX8_readNumber 99 = .ok (.getfield 25, 3) := by decide +kernel
theorem dX8_readNumber_102 : decode cX8_readNumber 102 = .ok (.iload_n 3, 1) := by decide +kernel
theorem dX8_readNumber_103 : decode cX8_readNumber 103 = .ok (.isub, 1) := by decide +kernel
theorem dX8_readNumber_104 : decode cX8_readNumber 104 = .ok (.iconst 3, 1) := by decide +kernel
theorem dX8_readNumber_105 : decode cX8_readNumber 105 = .ok (.if_icmp .gt 15, 3) := by decide +kernel
theorem dX8_readNumber_108 : decode cX8_readNumber 108 = .ok (.iload 4, 2) := by decide +kernel
theorem dX8_readNumber_110 : decode cX8_readNumber 110 = .ok (.iload_n 1, 1) := by decide +kernel
theorem dX8_readNumber_111 : decode cX8_readNumber 111 = .ok (.if_icmp .lt 9, 3) := by decide +kernel
theorem dX8_readNumber_114 : decode cX8_readNumber 114 = .ok (.iload 4, 2) := by decide +kernel
theorem dX8_readNumber_116 : decode cX8_readNumber 116 = .ok (.iload_n 2, 1) := by decide +kernel
theorem dX8_readNumber_117 : decode cX8_readNumber 117 = .ok (.if_icmp .le 9, 3) := by decide +kernel
theorem dX8_readNumber_120 : decode cX8_readNumber 120 = .ok (.aload_n 0, 1) := by decide +kernel
theorem dX8_readNumber_121 : decode cX8_readNumber 121 = .ok (.iconst 2, 1) := by decide +kernel
theorem dX8_readNumber_122 : decode cX8_readNumber 122 = .ok (.iload_n 3, 1) := by decide +kernel
theorem dX8_readNumber_123 : decode cX8_readNumber 123 = .ok (.invokevirtual 48, 3) := by decide +kernel
theorem dX8_readNumber_126 : decode cX8_readNumber 126 = .ok (.iload 4, 2) := by decide +kernel
theorem dX8_readNumber_128 : decode cX8_readNumber 128 = .ok (.ireturn, 1) := by decide +kernel
set_option maxRecDepth 20000 in
theorem ggX8_readEnd_X8_skipBlanks : GoodIn wsX8_readEnd wsX8_skipBlanks := goodIn_r _ [6, 1, 7, 8, 19, 20, 21, 22, 23] (by decide +kernel) (by decide +kernel)
set_option maxRecDepth 20000 in
theorem gX8_readEnd_X8_skipBlanks : GoodIn wsX8_readEnd (wsV RX8 33 RX8 yX8_skipBlanks wsX8_skipBlanks) := goodIn_app (goodIn_of _ (by decide +kernel)) ggX8_readEnd_X8_skipBlanks
set_option maxRecDepth 20000 in
theorem ggX8_readEnd_X8_letterHere : GoodIn wsX8_readEnd wsX8_letterHere := goodIn_r _ [12, 1, 7, 8, 19, 20, 21, 22, 23] (by decide +kernel) (by decide +kernel)
set_option maxRecDepth 20000 in
theorem gX8_readEnd_X8_letterHere : GoodIn wsX8_readEnd (wsV RX8 40 RX8 yX8_letterHere wsX8_letterHere) := goodIn_app (goodIn_of _ (by decide +kernel)) ggX8_readEnd_X8_letterHere
set_option maxRecDepth 20000 in
theorem ggX8_readEnd_X8_blame : GoodIn wsX8_readEnd wsX8_blame := goodIn_r _ [16, 17, 18, 19, 20, 21, 22, 23] (by decide +kernel) (by decide +kernel)
set_option maxRecDepth 20000 in
theorem gX8_readEnd_X8_blame : GoodIn wsX8_readEnd (wsV RX8 48 RX8 yX8_blame wsX8_blame) := goodIn_app (goodIn_of _ (by decide +kernel)) ggX8_readEnd_X8_blame
theorem dX8_readEnd_0 : decode cX8_readEnd 0 = .ok (.aload_n 0, 1) := by decide +kernel
theorem dX8_readEnd_1 : decode cX8_readEnd 1 = .ok (.invokevirtual 33, 3) := by decide +kernel
theorem dX8_readEnd_4 : decode cX8_readEnd 4 = .ok (.aload_n 0, 1) := by decide +kernel
theorem dX8_readEnd_5 : decode cX8_readEnd 5 = .ok (.bipush 59, 2) := by decide +kernel
theorem dX8_readEnd_7 : decode cX8_readEnd 7 = .ok (.invokevirtual 40, 3) := by decide +kernel
theorem dX8_readEnd_10 : decode cX8_readEnd 10 = .ok (.ifCond .ne 12, 3) := by decide +kernel
theorem dX8_readEnd_13 : decode cX8_readEnd 13 = .ok (.aload_n 0, 1) := by decide +kernel
theorem dX8_readEnd_14 : decode cX8_readEnd 14 = .ok (.iconst 1, 1) := by decide +kernel
theorem dX8_readEnd_15 : decode cX8_readEnd 15 = .ok (.aload_n 0, 1) := by decide +kernel
theorem dX8_readEnd_16 : decode cX8_readEnd 16 = .ok (.getfield 25, 3) := by decide +kernel
theorem dX8_readEnd_19 : decode cX8_readEnd 19 = .ok (.invokevirtual 48, 3) := by decide +kernel
theorem dX8_readEnd_22 : decode cX8_readEnd 22 = .ok (.aload_n 0, 1) := by decide +kernel
theorem dX8_readEnd_23 : decode cX8_readEnd 23 = .ok (.dup, 1) := by decide +kernel
theorem dX8_readEnd_24 : decode cX8_readEnd 24 = .ok (.getfield 25, 3) := by decide +kernel
theorem dX8_readEnd_27 : decode cX8_readEnd 27 = .ok (.iconst 1, 1) := by decide +kernel
theorem dX8_readEnd_28 : decode cX8_readEnd 28 = .ok (.iadd, 1) := by decide +kernel
theorem dX8_readEnd_29 : decode cX8_readEnd 29 = .ok (.putfield 25, 3) := by decide +kernel
theorem dX8_readEnd_32 : decode cX8_readEnd 32 = .ok (.return_, 1) := by decide +kernel
theorem dX8_skipBlanks_0 : decode cX8_skipBlanks 0 = .ok (.aload_n 0, 1) := by decide +kernel
theorem dX8_skipBlanks_1 : decode cX8_skipBlanks 1 = .ok (.getfield 25, 3) := by decide +kernel
theorem dX8_skipBlanks_4 : decode cX8_skipBlanks 4 = .ok (.aload_n 0, 1) := by decide +kernel
theorem dX8_skipBlanks_5 : decode cX8_skipBlanks 5 = .ok (.getfield 15, 3) := by decide +kernel
theorem dX8_skipBlanks_8 : decode cX8_skipBlanks 8 = .ok (.if_icmp .ge 30, 3) := by decide +kernel
theorem dX8_skipBlanks_11 : decode cX8_skipBlanks 11 = .ok (.aload_n 0, 1) := by decide +kernel
theorem dX8_skipBlanks_12 : decode cX8_skipBlanks 12 = .ok (.getfield 11, 3) := by decide +kernel
theorem dX8_skipBlanks_15 : decode cX8_skipBlanks 15 = .ok (.aload_n 0, 1) := by decide +kernel
theorem dX8_skipBlanks_16 : decode cX8_skipBlanks 16 = .ok (.getfield 25, 3) := by decide +kernel
theorem dX8_skipBlanks_19 : decode cX8_skipBlanks 19 = .ok (.iaload, 1) := by decide +kernel
theorem dX8_skipBlanks_20 : decode cX8_skipBlanks 20 = .ok (.bipush 32, 2) := by decide +kernel
theorem dX8_skipBlanks_22 : decode cX8_skipBlanks 22 = .ok (.if_icmp .ne 16, 3) := by decide +kernel
theorem dX8_skipBlanks_25 : decode cX8_skipBlanks 25 = .ok (.aload_n 0, 1) := by decide +kernel
theorem dX8_skipBlanks_26 : decode cX8_skipBlanks 26 = .ok (.dup, 1) := by decide +kernel
theorem dX8_skipBlanks_27 : decode cX8_skipBlanks 27 = .ok (.getfield 25, 3) := by decide +kernel
theorem dX8_skipBlanks_30 : decode cX8_skipBlanks 30 = .ok (.iconst 1, 1) := by decide +kernel
theorem dX8_skipBlanks_31 : decode cX8_skipBlanks 31 = .ok (.iadd, 1) := by decide +kernel
theorem dX8_skipBlanks_32 : decode cX8_skipBlanks 32 = .ok (.putfield 25, 3) := by decide +kernel
theorem dX8_skipBlanks_35 : decode cX8_skipBlanks 35 = .ok (.goto (-35), 3) := by decide +kernel
theorem dX8_skipBlanks_38 : decode cX8_skipBlanks 38 = .ok (.return_, 1) := by decide +kernel
theorem dX8_letterHere_0 : decode cX8_letterHere 0 = .ok (.aload_n 0, 1) := by decide +kernel
theorem dX8_letterHere_1 : decode cX8_letterHere 1 = .ok (.getfield 25, 3) := by decide +kernel
theorem dX8_letterHere_4 : decode cX8_letterHere 4 = .ok (.aload_n 0, 1) := by decide +kernel
theorem dX8_letterHere_5 : decode cX8_letterHere 5 = .ok (.getfield 15, 3) := by decide +kernel
theorem dX8_letterHere_8 : decode cX8_letterHere 8 = .ok (.if_icmp .ge 20, 3) := by decide +kernel
theorem dX8_letterHere_11 : decode cX8_letterHere 11 = .ok (.aload_n 0, 1) := by decide +kernel
theorem dX8_letterHere_12 : decode cX8_letterHere 12 = .ok (.getfield 11, 3) := by decide +kernel
theorem dX8_letterHere_15 : decode cX8_letterHere 15 = .ok (.aload_n 0, 1) := by decide +kernel
theorem dX8_letterHere_16 : decode cX8_letterHere 16 = .ok (.getfield 25, 3) := by decide +kernel
theorem dX8_letterHere_19 : decode cX8_letterHere 19 = .ok (.iaload, 1) := by decide +kernel
theorem dX8_letterHere_20 : decode cX8_letterHere 20 = .ok (.iload_n 1, 1) := by decide +kernel
theorem dX8_letterHere_21 : decode cX8_letterHere 21 = .ok (.if_icmp .ne 7, 3) := by decide +kernel
theorem dX8_letterHere_24 : decode cX8_letterHere 24 = .ok (.iconst 1, 1) := by decide +kernel
theorem dX8_letterHere_25 : decode cX8_letterHere 25 = .ok (.goto 4, 3) := by decide +kernel
theorem dX8_letterHere_28 : decode cX8_letterHere 28 = .ok (.iconst 0, 1) := by decide +kernel
theorem dX8_letterHere_29 : decode cX8_letterHere 29 = .ok (.ireturn, 1) := by decide +kernel
theorem dX8_isFigure_0 : decode cX8_isFigure 0 = .ok (.iload_n 0, 1) := by decide +kernel
theorem dX8_isFigure_1 : decode cX8_isFigure 1 = .ok (.bipush 48, 2) := by decide +kernel
theorem dX8_isFigure_3 : decode cX8_isFigure 3 = .ok (.if_icmp .lt 13, 3) := by decide +kernel
theorem dX8_isFigure_6 : decode cX8_isFigure 6 = .ok (.iload_n 0, 1) := by decide +kernel
theorem dX8_isFigure_7 : decode cX8_isFigure 7 = .ok (.bipush 57, 2) := by decide +kernel
theorem dX8_isFigure_9 : decode cX8_isFigure 9 = .ok (.if_icmp .gt 7, 3) := by decide +kernel
theorem dX8_isFigure_12 : decode cX8_isFigure 12 = .ok (.iconst 1, 1) := by decide +kernel
theorem dX8_isFigure_13 : decode cX8_isFigure 13 = .ok (.goto 4, 3) := by decide +kernel
theorem dX8_isFigure_16 : decode cX8_isFigure 16 = .ok (.iconst 0, 1) := by decide +kernel
theorem dX8_isFigure_17 : decode cX8_isFigure 17 = .ok (.ireturn, 1) := by decide +kernel
theorem dX8_blame_0 : decode cX8_blame 0 = .ok (.aload_n 0, 1) := by decide +kernel
theorem dX8_blame_1 : decode cX8_blame 1 = .ok (.getfield 19, 3) := by decide +kernel
theorem dX8_blame_4 : decode cX8_blame 4 = .ok (.ifCond .ne 13, 3) := by decide +kernel
theorem dX8_blame_7 : decode cX8_blame 7 = .ok (.aload_n 0, 1) := by decide +kernel
theorem dX8_blame_8 : decode cX8_blame 8 = .ok (.iload_n 1, 1) := by decide +kernel
theorem dX8_blame_9 : decode cX8_blame 9 = .ok (.putfield 19, 3) := by decide +kernel
theorem dX8_blame_12 : decode cX8_blame 12 = .ok (.aload_n 0, 1) := by decide +kernel
theorem dX8_blame_13 : decode cX8_blame 13 = .ok (.iload_n 2, 1) := by decide +kernel
theorem dX8_blame_14 : decode cX8_blame 14 = .ok (.putfield 22, 3) := by decide +kernel
theorem dX8_blame_17 : decode cX8_blame 17 = .ok (.return_, 1) := by decide +kernel
theorem dX9_init_0 : decode cX9_init 0 = .ok (.aload_n 0, 1) := by decide +kernel
theorem dX9_init_1 : decode cX9_init 1 = .ok (.invokespecial 3, 3) := by decide +kernel
theorem dX9_init_4 : decode cX9_init 4 = .ok (.aload_n 0, 1) := by decide +kernel
theorem dX9_init_5 : decode cX9_init 5 = .ok (.iconst 0, 1) := by decide +kernel
theorem dX9_init_6 : decode cX9_init 6 = .ok (.iload_n 1, 1) := by decide +kernel
theorem dX9_init_7 : decode cX9_init 7 = .ok (.invokestatic 9, 3) := by decide +kernel
theorem dX9_init_10 : decode cX9_init 10 = .ok (.putfield 15, 3) := by decide +kernel
theorem dX9_init_13 : decode cX9_init 13 = .ok (.aload_n 0, 1) := by decide +kernel
theorem dX9_init_14 : decode cX9_init 14 = .ok (.aload_n 0, 1) := by decide +kernel
theorem dX9_init_15 : decode cX9_init 15 = .ok (.getfield 15, 3) := by decide +kernel
theorem dX9_init_18 : decode cX9_init 18 = .ok (.bipush 19, 2) := by decide +kernel
theorem dX9_init_20 : decode cX9_init 20 = .ok (.imul, 1) := by decide +kernel
theorem dX9_init_21 : decode cX9_init 21 = .ok (.newarray .int, 2) := by decide +kernel
theorem dX9_init_23 : decode cX9_init 23 = .ok (.putfield 23, 3) := by decide +kernel
theorem dX9_init_26 : decode cX9_init 26 = .ok (.return_, 1) := by decide +kernel
theorem dX9_put_0 : decode cX9_put 0 = .ok (.iload_n 1, 1) := by decide +kernel
theorem dX9_put_1 : decode cX9_put 1 = .ok (.ifCond .lt 11, 3) := by decide +kernel
theorem dX9_put_4 : decode cX9_put 4 = .ok (.iload_n 1, 1) := by decide +kernel
theorem dX9_put_5 : decode cX9_put 5 = .ok (.aload_n 0, 1) := by decide +kernel
theorem dX9_put_6 : decode cX9_put 6 = .ok (.getfield 15, 3) := by decide +kernel
theorem dX9_put_9 : decode cX9_put 9 = .ok (.if_icmp .lt 4, 3) := by decide +kernel
theorem dX9_put_12 : decode cX9_put 12 = .ok (.return_, 1) := by decide +kernel
theorem dX9_put_13 : decode cX9_put 13 = .ok (.iload_n 1, 1) := by decide +kernel
theorem dX9_put_14 : decode cX9_put 14 = .ok (.bipush 19, 2) := by decide +kernel
theorem dX9_put_16 : decode cX9_put 16 = .ok (.imul, 1) := by decide +kernel
theorem dX9_put_17 : decode cX9_put 17 = .ok (.istore_n 3, 1) := by decide +kernel
theorem dX9_put_18 : decode cX9_put 18 = .ok (.aload_n 2, 1) := by decide +kernel
theorem dX9_put_19 : decode cX9_put 19 = .ok (.getfield 27, 3) := by decide +kernel
theorem dX9_put_22 : decode cX9_put 22 = .ok (.iconst 0, 1) := by decide +kernel
theorem dX9_put_23 : decode cX9_put 23 = .ok (.aload_n 0, 1) := by decide +kernel
theorem dX9_put_24 : decode cX9_put 24 = .ok (.getfield 23, 3) := by decide +kernel
theorem dX9_put_27 : decode cX9_put 27 = .ok (.iload_n 3, 1) := by decide +kernel
theorem dX9_put_28 : decode cX9_put 28 = .ok (.bipush 8, 2) := by decide +kernel
theorem dX9_put_30 : decode cX9_put 30 = .ok (.invokestatic 30, 3) := by decide +kernel
theorem dX9_put_33 : decode cX9_put 33 = .ok (.aload_n 2, 1) := by decide +kernel
theorem dX9_put_34 : decode cX9_put 34 = .ok (.getfield 36, 3) := by decide +kernel
theorem dX9_put_37 : decode cX9_put 37 = .ok (.iconst 0, 1) := by decide +kernel
theorem dX9_put_38 : decode cX9_put 38 = .ok (.aload_n 0, 1) := by decide +kernel
theorem dX9_put_39 : decode cX9_put 39 = .ok (.getfield 23, 3) := by decide +kernel
theorem dX9_put_42 : decode cX9_put 42 = .ok (.iload_n 3, 1) := by decide +kernel
theorem dX9_put_43 : decode cX9_put 43 = .ok (.bipush 8, 2) := by decide +kernel
theorem dX9_put_45 : decode cX9_put 45 = .ok (.iadd, 1) := by decide +kernel
theorem dX9_put_46 : decode cX9_put 46 = .ok (.bipush 8, 2) := by decide +kernel
theorem dX9_put_48 : decode cX9_put 48 = .ok (.invokestatic 30, 3) := by decide +kernel
theorem dX9_put_51 : decode cX9_put 51 = .ok (.aload_n 0, 1) := by decide +kernel
theorem dX9_put_52 : decode cX9_put 52 = .ok (.getfield 23, 3) := by decide +kernel
theorem dX9_put_55 : decode cX9_put 55 = .ok (.iload_n 3, 1) := by decide +kernel
theorem dX9_put_56 : decode cX9_put 56 = .ok (.bipush 16, 2) := by decide +kernel
theorem dX9_put_58 : decode cX9_put 58 = .ok (.iadd, 1) := by decide +kernel
theorem dX9_put_59 : decode cX9_put 59 = .ok (.aload_n 2, 1) := by decide +kernel
theorem dX9_put_60 : decode cX9_put 60 = .ok (.getfield 39, 3) := by decide +kernel
theorem dX9_put_63 : decode cX9_put 63 = .ok (.iastore, 1) := by decide +kernel
theorem dX9_put_64 : decode cX9_put 64 = .ok (.aload_n 0, 1) := by decide +kernel
theorem dX9_put_65 : decode cX9_put 65 = .ok (.getfield 23, 3) := by decide +kernel
theorem dX9_put_68 : decode cX9_put 68 = .ok (.iload_n 3, 1) := by decide +kernel
theorem dX9_put_69 : decode cX9_put 69 = .ok (.bipush 16, 2) := by decide +kernel
theorem dX9_put_71 : decode cX9_put 71 = .ok (.iadd, 1) := by decide +kernel
theorem dX9_put_72 : decode cX9_put 72 = .ok (.iconst 1, 1) := by decide +kernel
theorem dX9_put_73 : decode cX9_put 73 = .ok (.iadd, 1) := by decide +kernel
theorem dX9_put_74 : decode cX9_put 74 = .ok (.aload_n 2, 1) := by decide +kernel
theorem dX9_put_75 : decode cX9_put 75 = .ok (.getfield 42, 3) := by decide +kernel
theorem dX9_put_78 : decode cX9_put 78 = .ok (.iastore, 1) := by decide +kernel
theorem dX9_put_79 : decode cX9_put 79 = .ok (.aload_n 0, 1) := by decide +kernel
theorem dX9_put_80 : decode cX9_put 80 = .ok (.getfield 23, 3) := by decide +kernel
theorem dX9_put_83 : decode cX9_put 83 = .ok (.iload_n 3, 1) := by decide +kernel
theorem dX9_put_84 : decode cX9_put 84 = .ok (.bipush 16, 2) := by decide +kernel
theorem dX9_put_86 : decode cX9_put 86 = .ok (.iadd, 1) := by decide +kernel
theorem dX9_put_87 : decode cX9_put 87 = .ok (.iconst 2, 1) := by decide +kernel
theorem dX9_put_88 : decode cX9_put 88 = .ok (.iadd, 1) := by decide +kernel
theorem dX9_put_89 : decode cX9_put 89 = .ok (.aload_n 2, 1) := by decide +kernel
theorem dX9_put_90 : decode cX9_put 90 = .ok (.getfield 45, 3) := by decide +kernel
theorem dX9_put_93 : decode cX9_put 93 = .ok (.iastore, 1) := by decide +kernel
theorem dX9_put_94 : decode cX9_put 94 = .ok (.return_, 1) := by decide +kernel
theorem dX9_get_0 : decode cX9_get 0 = .ok (.iload_n 1, 1) := by decide +kernel
theorem dX9_get_1 : decode cX9_get 1 = .ok (.ifCond .lt 11, 3) := by decide +kernel
theorem dX9_get_4 : decode cX9_get 4 = .ok (.iload_n 1, 1) := by decide +kernel
theorem dX9_get_5 : decode cX9_get 5 = .ok (.aload_n 0, 1) := by decide +kernel
theorem dX9_get_6 : decode cX9_get 6 = .ok (.getfield 15, 3) := by decide +kernel
theorem dX9_get_9 : decode cX9_get 9 = .ok (.if_icmp .lt 4, 3) := by decide +kernel
theorem dX9_get_12 : decode cX9_get 12 = .ok (.return_, 1) := by decide +kernel
theorem dX9_get_13 : decode cX9_get 13 = .ok (.iload_n 1, 1) := by decide +kernel
theorem dX9_get_14 : decode cX9_get 14 = .ok (.bipush 19, 2) := by decide +kernel
