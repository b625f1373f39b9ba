theorem dX11_refuseDays_1 : decode cX11_refuseDays 1 = .ok (.iconst 1, 1) := by decide +kernel
theorem dX11_refuseDays_2 : decode cX11_refuseDays 2 = .ok (.if_icmp .lt 9, 3) := by decide +kernel
theorem dX11_refuseDays_5 : decode cX11_refuseDays 5 = .ok (.iload_n 1, 1) := by decide +kernel
theorem dX11_refuseDays_6 : decode cX11_refuseDays 6 = .ok (.bipush 30, 2) := by decide +kernel
theorem dX11_refuseDays_8 : decode cX11_refuseDays 8 = .ok (.if_icmp .le 6, 3) := by decide +kernel
theorem dX11_refuseDays_11 : decode cX11_refuseDays 11 = .ok (.ldc 85, 2) := by decide +kernel
theorem dX11_refuseDays_13 : decode cX11_refuseDays 13 = .ok (.ireturn, 1) := by decide +kernel
theorem dX11_refuseDays_14 : decode cX11_refuseDays 14 = .ok (.aload_n 0, 1) := by decide +kernel
theorem dX11_refuseDays_15 : decode cX11_refuseDays 15 = .ok (.getfield 19, 3) := by decide +kernel
theorem dX11_refuseDays_18 : decode cX11_refuseDays 18 = .ok (.getfield 188, 3) := by decide +kernel
theorem dX11_refuseDays_21 : decode cX11_refuseDays 21 = .ok (.ifCond .ne 6, 3) := by decide +kernel
theorem dX11_refuseDays_24 : decode cX11_refuseDays 24 = .ok (.ldc 187, 2) := by decide +kernel
theorem dX11_refuseDays_26 : decode cX11_refuseDays 26 = .ok (.ireturn, 1) := by decide +kernel
theorem dX11_refuseDays_27 : decode cX11_refuseDays 27 = .ok (.aload_n 0, 1) := by decide +kernel
theorem dX11_refuseDays_28 : decode cX11_refuseDays 28 = .ok (.getfield 29, 3) := by decide +kernel
theorem dX11_refuseDays_31 : decode cX11_refuseDays 31 = .ok (.getfield 123, 3) := by decide +kernel
theorem dX11_refuseDays_34 : decode cX11_refuseDays 34 = .ok (.sipush 9000, 3) := by decide +kernel
theorem dX11_refuseDays_37 : decode cX11_refuseDays 37 = .ok (.if_icmp .le 8, 3) := by decide +kernel
theorem dX11_refuseDays_40 : decode cX11_refuseDays 40 = .ok (.ldc 94, 2) := by decide +kernel
theorem dX11_refuseDays_42 : decode cX11_refuseDays 42 = .ok (.goto 4, 3) := by decide +kernel
theorem dX11_refuseDays_45 : decode cX11_refuseDays 45 = .ok (.iconst 0, 1) := by decide +kernel
theorem dX11_refuseDays_46 : decode cX11_refuseDays 46 = .ok (.ireturn, 1) := by decide +kernel
set_option maxRecDepth 20000 in
theorem ggX11_driftDay_X1_next : GoodIn wsX11_driftDay wsX1_next := goodIn_r _ [10, 11, 12, 13, 14, 15, 74] (by decide +kernel) (by decide +kernel)
set_option maxRecDepth 20000 in
theorem gX11_driftDay_X1_next : GoodIn wsX11_driftDay (wsV RX11 283 RX1 yX1_next wsX1_next) := goodIn_app (goodIn_of _ (by decide +kernel)) ggX11_driftDay_X1_next
set_option maxRecDepth 20000 in
theorem ggX11_driftDay_X6_has : GoodIn wsX11_driftDay wsX6_has := goodIn_r _ [20, 21, 61, 62, 63, 64, 65, 66, 67, 68] (by decide +kernel) (by decide +kernel)
set_option maxRecDepth 20000 in
theorem gX11_driftDay_X6_has : GoodIn wsX11_driftDay (wsV RX11 152 RX6 yX6_has wsX6_has) := goodIn_app (goodIn_of _ (by decide +kernel)) ggX11_driftDay_X6_has
set_option maxRecDepth 20000 in
theorem ggX11_driftDay_X10_passDay : GoodIn wsX11_driftDay wsX10_passDay := goodIn_r _ [26, 27, 28, 29, 30, 31, 32, 33, 34, 35, 25, 36, 37, 38, 39, 40, 41, 42, 43, 44, 45, 46, 47, 48, 69, 70, 71, 72, 73, 61, 62, 63, 64, 65, 66, 67, 68] (by decide +kernel) (by decide +kernel)
set_option maxRecDepth 20000 in
theorem gX11_driftDay_X10_passDay : GoodIn wsX11_driftDay (wsV RX11 183 RX10 yX10_passDay wsX10_passDay) := goodIn_app (goodIn_of _ (by decide +kernel)) ggX11_driftDay_X10_passDay
theorem dX11_driftDay_0 : decode cX11_driftDay 0 = .ok (.iconst (-1), 1) := by decide +kernel
theorem dX11_driftDay_1 : decode cX11_driftDay 1 = .ok (.istore_n 1, 1) := by decide +kernel
theorem dX11_driftDay_2 : decode cX11_driftDay 2 = .ok (.iconst 0, 1) := by decide +kernel
theorem dX11_driftDay_3 : decode cX11_driftDay 3 = .ok (.istore_n 2, 1) := by decide +kernel
theorem dX11_driftDay_4 : decode cX11_driftDay 4 = .ok (.aload_n 0, 1) := by decide +kernel
theorem dX11_driftDay_5 : decode cX11_driftDay 5 = .ok (.getfield 19, 3) := by decide +kernel
theorem dX11_driftDay_8 : decode cX11_driftDay 8 = .ok (.getfield 111, 3) := by decide +kernel
theorem dX11_driftDay_11 : decode cX11_driftDay 11 = .ok (.ifCond .le 82, 3) := by decide +kernel
theorem dX11_driftDay_14 : decode cX11_driftDay 14 = .ok (.aload_n 0, 1) := by decide +kernel
theorem dX11_driftDay_15 : decode cX11_driftDay 15 = .ok (.getfield 53, 3) := by decide +kernel
theorem dX11_driftDay_18 : decode cX11_driftDay 18 = .ok (.aload_n 0, 1) := by decide +kernel
theorem dX11_driftDay_19 : decode cX11_driftDay 19 = .ok (.getfield 19, 3) := by decide +kernel
theorem dX11_driftDay_22 : decode cX11_driftDay 22 = .ok (.getfield 111, 3) := by decide +kernel
theorem dX11_driftDay_25 : decode cX11_driftDay 25 = .ok (.invokevirtual 283, 3) := by decide +kernel
theorem dX11_driftDay_28 : decode cX11_driftDay 28 = .ok (.istore_n 3, 1) := by decide +kernel
theorem dX11_driftDay_29 : decode cX11_driftDay 29 = .ok (.aload_n 0, 1) := by decide +kernel
theorem dX11_driftDay_30 : decode cX11_driftDay 30 = .ok (.getfield 53, 3) := by decide +kernel
theorem dX11_driftDay_33 : decode cX11_driftDay 33 = .ok (.iconst 4, 1) := by decide +kernel
theorem dX11_driftDay_34 : decode cX11_driftDay 34 = .ok (.invokevirtual 283, 3) := by decide +kernel
theorem dX11_driftDay_37 : decode cX11_driftDay 37 = .ok (.ifCond .ne 31, 3) := by decide +kernel
theorem dX11_driftDay_40 : decode cX11_driftDay 40 = .ok (.aload_n 0, 1) := by decide +kernel
theorem dX11_driftDay_41 : decode cX11_driftDay 41 = .ok (.getfield 19, 3) := by decide +kernel
theorem dX11_driftDay_44 : decode cX11_driftDay 44 = .ok (.iload_n 3, 1) := by decide +kernel
theorem dX11_driftDay_45 : decode cX11_driftDay 45 = .ok (.invokevirtual 152, 3) := by decide +kernel
theorem dX11_driftDay_48 : decode cX11_driftDay 48 = .ok (.ifCond .eq 20, 3) := by decide +kernel
theorem dX11_driftDay_51 : decode cX11_driftDay 51 = .ok (.aload_n 0, 1) := by decide +kernel
theorem dX11_driftDay_52 : decode cX11_driftDay 52 = .ok (.getfield 29, 3) := by decide +kernel
theorem dX11_driftDay_55 : decode cX11_driftDay 55 = .ok (.getfield 169, 3) := by decide +kernel
theorem dX11_driftDay_58 : decode cX11_driftDay 58 = .ok (.iload_n 3, 1) := by decide +kernel
theorem dX11_driftDay_59 : decode cX11_driftDay 59 = .ok (.aload_n 0, 1) := by decide +kernel
theorem dX11_driftDay_60 : decode cX11_driftDay 60 = .ok (.getfield 53, 3) := by decide +kernel
theorem dX11_driftDay_63 : decode cX11_driftDay 63 = .ok (.iconst 5, 1) := by decide +kernel
theorem dX11_driftDay_64 : decode cX11_driftDay 64 = .ok (.invokevirtual 283, 3) := by decide +kernel
theorem dX11_driftDay_67 : decode cX11_driftDay 67 = .ok (.iastore, 1) := by decide +kernel
theorem dX11_driftDay_68 : decode cX11_driftDay 68 = .ok (.aload_n 0, 1) := by decide +kernel
theorem dX11_driftDay_69 : decode cX11_driftDay 69 = .ok (.getfield 53, 3) := by decide +kernel
theorem dX11_driftDay_72 : decode cX11_driftDay 72 = .ok (.aload_n 0, 1) := by decide +kernel
theorem dX11_driftDay_73 : decode cX11_driftDay 73 = .ok (.getfield 19, 3) := by decide +kernel
theorem dX11_driftDay_76 : decode cX11_driftDay 76 = .ok (.getfield 111, 3) := by decide +kernel
theorem dX11_driftDay_79 : decode cX11_driftDay 79 = .ok (.invokevirtual 283, 3) := by decide +kernel
theorem dX11_driftDay_82 : decode cX11_driftDay 82 = .ok (.istore_n 1, 1) := by decide +kernel
theorem dX11_driftDay_83 : decode cX11_driftDay 83 = .ok (.aload_n 0, 1) := by decide +kernel
theorem dX11_driftDay_84 : decode cX11_driftDay 84 = .ok (.getfield 53, 3) := by decide +kernel
theorem dX11_driftDay_87 : decode cX11_driftDay 87 = .ok (.bipush 10, 2) := by decide +kernel
theorem dX11_driftDay_89 : decode cX11_driftDay 89 = .ok (.invokevirtual 283, 3) := by decide +kernel
theorem dX11_driftDay_92 : decode cX11_driftDay 92 = .ok (.istore_n 2, 1) := by decide +kernel
theorem dX11_driftDay_93 : decode cX11_driftDay 93 = .ok (.aload_n 0, 1) := by decide +kernel
theorem dX11_driftDay_94 : decode cX11_driftDay 94 = .ok (.getfield 29, 3) := by decide +kernel
theorem dX11_driftDay_97 : decode cX11_driftDay 97 = .ok (.aload_n 0, 1) := by decide +kernel
theorem dX11_driftDay_98 : decode cX11_driftDay 98 = .ok (.getfield 19, 3) := by decide +kernel
theorem dX11_driftDay_101 : decode cX11_driftDay 101 = .ok (.iload_n 1, 1) := by decide +kernel
theorem dX11_driftDay_102 : decode cX11_driftDay 102 = .ok (.iload_n 2, 1) := by decide +kernel
theorem dX11_driftDay_103 : decode cX11_driftDay 103 = .ok (.invokevirtual 183, 3) := by decide +kernel
theorem dX11_driftDay_106 : decode cX11_driftDay 106 = .ok (.return_, 1) := by decide +kernel
set_option maxRecDepth 20000 in
theorem ggX11_tryDays_X10_copyFrom : GoodIn wsX11_tryDays wsX10_copyFrom := goodIn_r _ [9, 10, 11, 12, 13, 14, 15, 16, 17, 18, 52, 53, 54, 55, 56] (by decide +kernel) (by decide +kernel)
set_option maxRecDepth 20000 in
theorem gX11_tryDays_X10_copyFrom : GoodIn wsX11_tryDays (wsV RX11 223 RX10 yX10_copyFrom wsX10_copyFrom) := goodIn_app (goodIn_of _ (by decide +kernel)) ggX11_tryDays_X10_copyFrom
set_option maxRecDepth 20000 in
theorem ggX11_tryDays_X10_passDay : GoodIn wsX11_tryDays wsX10_passDay := goodIn_r _ [22, 16, 23, 24, 25, 15, 10, 26, 27, 28, 8, 29, 30, 18, 31, 32, 33, 34, 35, 36, 37, 38, 39, 17, 52, 53, 54, 55, 56, 57, 58, 59, 60, 61, 62, 63, 64] (by decide +kernel) (by decide +kernel)
set_option maxRecDepth 20000 in
theorem gX11_tryDays_X10_passDay : GoodIn wsX11_tryDays (wsV RX11 183 RX10 yX10_passDay wsX10_passDay) := goodIn_app (goodIn_of _ (by decide +kernel)) ggX11_tryDays_X10_passDay
theorem dX11_tryDays_0 : decode cX11_tryDays 0 = .ok (.aload_n 0, 1) := by decide +kernel
theorem dX11_tryDays_1 : decode cX11_tryDays 1 = .ok (.getfield 33, 3) := by decide +kernel
theorem dX11_tryDays_4 : decode cX11_tryDays 4 = .ok (.aload_n 0, 1) := by decide +kernel
theorem dX11_tryDays_5 : decode cX11_tryDays 5 = .ok (.getfield 29, 3) := by decide +kernel
theorem dX11_tryDays_8 : decode cX11_tryDays 8 = .ok (.invokevirtual 223, 3) := by decide +kernel
theorem dX11_tryDays_11 : decode cX11_tryDays 11 = .ok (.aload_n 0, 1) := by decide +kernel
theorem dX11_tryDays_12 : decode cX11_tryDays 12 = .ok (.getfield 33, 3) := by decide +kernel
theorem dX11_tryDays_15 : decode cX11_tryDays 15 = .ok (.iconst 0, 1) := by decide +kernel
theorem dX11_tryDays_16 : decode cX11_tryDays 16 = .ok (.putfield 134, 3) := by decide +kernel
theorem dX11_tryDays_19 : decode cX11_tryDays 19 = .ok (.iconst 0, 1) := by decide +kernel
theorem dX11_tryDays_20 : decode cX11_tryDays 20 = .ok (.istore_n 2, 1) := by decide +kernel
theorem dX11_tryDays_21 : decode cX11_tryDays 21 = .ok (.iload_n 2, 1) := by decide +kernel
theorem dX11_tryDays_22 : decode cX11_tryDays 22 = .ok (.iload_n 1, 1) := by decide +kernel
theorem dX11_tryDays_23 : decode cX11_tryDays 23 = .ok (.if_icmp .ge 22, 3) := by decide +kernel
theorem dX11_tryDays_26 : decode cX11_tryDays 26 = .ok (.aload_n 0, 1) := by decide +kernel
theorem dX11_tryDays_27 : decode cX11_tryDays 27 = .ok (.getfield 33, 3) := by decide +kernel
theorem dX11_tryDays_30 : decode cX11_tryDays 30 = .ok (.aload_n 0, 1) := by decide +kernel
theorem dX11_tryDays_31 : decode cX11_tryDays 31 = .ok (.getfield 19, 3) := by decide +kernel
theorem dX11_tryDays_34 : decode cX11_tryDays 34 = .ok (.iconst (-1), 1) := by decide +kernel
theorem dX11_tryDays_35 : decode cX11_tryDays 35 = .ok (.iconst 0, 1) := by decide +kernel
theorem dX11_tryDays_36 : decode cX11_tryDays 36 = .ok (.invokevirtual 183, 3) := by decide +kernel
theorem dX11_tryDays_39 : decode cX11_tryDays 39 = .ok (.iinc 2 1, 3) := by decide +kernel
theorem dX11_tryDays_42 : decode cX11_tryDays 42 = .ok (.goto (-21), 3) := by decide +kernel
theorem dX11_tryDays_45 : decode cX11_tryDays 45 = .ok (.return_, 1) := by decide +kernel
set_option maxRecDepth 20000 in
theorem ggX11_allStreamsBear_X11_streamBears : GoodIn wsX11_allStreamsBear wsX11_streamBears := goodIn_r _ [9, 1, 2, 10, 11, 12, 13, 14, 15, 16, 17, 18, 19, 20, 21, 22, 23, 24, 25, 26, 27, 28, 29, 30, 31, 32, 33, 34, 35, 36, 37, 38] (by decide +kernel) (by decide +kernel)
set_option maxRecDepth 20000 in
theorem gX11_allStreamsBear_X11_streamBears : GoodIn wsX11_allStreamsBear (wsV RX11 286 RX11 yX11_streamBears wsX11_streamBears) := goodIn_app (goodIn_of _ (by decide +kernel)) ggX11_allStreamsBear_X11_streamBears
theorem dX11_allStreamsBear_0 : decode cX11_allStreamsBear 0 = .ok (.iconst 0, 1) := by decide +kernel
theorem dX11_allStreamsBear_1 : decode cX11_allStreamsBear 1 = .ok (.istore_n 3, 1) := by decide +kernel
theorem dX11_allStreamsBear_2 : decode cX11_allStreamsBear 2 = .ok (.iload_n 3, 1) := by decide +kernel
theorem dX11_allStreamsBear_3 : decode cX11_allStreamsBear 3 = .ok (.aload_n 0, 1) := by decide +kernel
theorem dX11_allStreamsBear_4 : decode cX11_allStreamsBear 4 = .ok (.getfield 19, 3) := by decide +kernel
theorem dX11_allStreamsBear_7 : decode cX11_allStreamsBear 7 = .ok (.getfield 111, 3) := by decide +kernel
theorem dX11_allStreamsBear_10 : decode cX11_allStreamsBear 10 = .ok (.if_icmp .ge 42, 3) := by decide +kernel
theorem dX11_allStreamsBear_13 : decode cX11_allStreamsBear 13 = .ok (.aload_n 0, 1) := by decide +kernel
theorem dX11_allStreamsBear_14 : decode cX11_allStreamsBear 14 = .ok (.getfield 19, 3) := by decide +kernel
theorem dX11_allStreamsBear_17 : decode cX11_allStreamsBear 17 = .ok (.getfield 163, 3) := by decide +kernel
theorem dX11_allStreamsBear_20 : decode cX11_allStreamsBear 20 = .ok (.iload_n 3, 1) := by decide +kernel
theorem dX11_allStreamsBear_21 : decode cX11_allStreamsBear 21 = .ok (.iaload, 1) := by decide +kernel
theorem dX11_allStreamsBear_22 : decode cX11_allStreamsBear 22 = .ok (.iconst (-1), 1) := by decide +kernel
theorem dX11_allStreamsBear_23 : decode cX11_allStreamsBear 23 = .ok (.if_icmp .ne 23, 3) := by decide +kernel
theorem dX11_allStreamsBear_26 : decode cX11_allStreamsBear 26 = .ok (.aload_n 0, 1) := by decide +kernel
theorem dX11_allStreamsBear_27 : decode cX11_allStreamsBear 27 = .ok (.aload_n 0, 1) := by decide +kernel
theorem dX11_allStreamsBear_28 : decode cX11_allStreamsBear 28 = .ok (.getfield 19, 3) := by decide +kernel
theorem dX11_allStreamsBear_31 : decode cX11_allStreamsBear 31 = .ok (.getfield 172, 3) := by decide +kernel
theorem dX11_allStreamsBear_34 : decode cX11_allStreamsBear 34 = .ok (.iload_n 3, 1) := by decide +kernel
theorem dX11_allStreamsBear_35 : decode cX11_allStreamsBear 35 = .ok (.iaload, 1) := by decide +kernel
theorem dX11_allStreamsBear_36 : decode cX11_allStreamsBear 36 = .ok (.iload_n 1, 1) := by decide +kernel
theorem dX11_allStreamsBear_37 : decode cX11_allStreamsBear 37 = .ok (.iload_n 2, 1) := by decide +kernel
theorem dX11_allStreamsBear_38 : decode cX11_allStreamsBear 38 = .ok (.invokevirtual 286, 3) := by decide +kernel
theorem dX11_allStreamsBear_41 : decode cX11_allStreamsBear 41 = .ok (.ifCond .ne 5, 3) := by decide +kernel
theorem dX11_allStreamsBear_44 : decode cX11_allStreamsBear 44 = .ok (.iconst 0, 1) := by decide +kernel
theorem dX11_allStreamsBear_45 : decode cX11_allStreamsBear 45 = .ok (.ireturn, 1) := by decide +kernel
theorem dX11_allStreamsBear_46 : decode cX11_allStreamsBear 46 = .ok (.iinc 3 1, 3) := by decide +kernel
theorem dX11_allStreamsBear_49 : decode cX11_allStreamsBear 49 = .ok (.goto (-47), 3) := by decide +kernel
theorem dX11_allStreamsBear_52 : decode cX11_allStreamsBear 52 = .ok (.iconst 1, 1) := by decide +kernel
theorem dX11_allStreamsBear_53 : decode cX11_allStreamsBear 53 = .ok (.ireturn, 1) := by decide +kernel
theorem dX11_streamBears_0 : decode cX11_streamBears 0 = .ok (.iconst 0, 1) := by decide +kernel
theorem dX11_streamBears_1 : decode cX11_streamBears 1 = .ok (.istore 4, 2) := by decide +kernel
theorem dX11_streamBears_3 : decode cX11_streamBears 3 = .ok (.iconst 0, 1) := by decide +kernel
theorem dX11_streamBears_4 : decode cX11_streamBears 4 = .ok (.istore 5, 2) := by decide +kernel
theorem dX11_streamBears_6 : decode cX11_streamBears 6 = .ok (.iload 5, 2) := by decide +kernel
theorem dX11_streamBears_8 : decode cX11_streamBears 8 = .ok (.aload_n 0, 1) := by decide +kernel
theorem dX11_streamBears_9 : decode cX11_streamBears 9 = .ok (.getfield 19, 3) := by decide +kernel
theorem dX11_streamBears_12 : decode cX11_streamBears 12 = .ok (.getfield 111, 3) := by decide +kernel
theorem dX11_streamBears_15 : decode cX11_streamBears 15 = .ok (.if_icmp .ge 71, 3) := by decide +kernel
theorem dX11_streamBears_18 : decode cX11_streamBears 18 = .ok (.iload_n 1, 1) := by decide +kernel
theorem dX11_streamBears_19 : decode cX11_streamBears 19 = .ok (.iload 5, 2) := by decide +kernel
theorem dX11_streamBears_21 : decode cX11_streamBears 21 = .ok (.ishr, 1) := by decide +kernel
theorem dX11_streamBears_22 : decode cX11_streamBears 22 = .ok (.iconst 1, 1) := by decide +kernel
theorem dX11_streamBears_23 : decode cX11_streamBears 23 = .ok (.iand, 1) := by decide +kernel
theorem dX11_streamBears_24 : decode cX11_streamBears 24 = .ok (.iconst 1, 1) := by decide +kernel
theorem dX11_streamBears_25 : decode cX11_streamBears 25 = .ok (.if_icmp .ne 55, 3) := by decide +kernel
theorem dX11_streamBears_28 : decode cX11_streamBears 28 = .ok (.iload 4, 2) := by decide +kernel
theorem dX11_streamBears_30 : decode cX11_streamBears 30 = .ok (.aload_n 0, 1) := by decide +kernel
theorem dX11_streamBears_31 : decode cX11_streamBears 31 = .ok (.getfield 19, 3) := by decide +kernel
theorem dX11_streamBears_34 : decode cX11_streamBears 34 = .ok (.getfield 156, 3) := by decide +kernel
theorem dX11_streamBears_37 : decode cX11_streamBears 37 = .ok (.iload 5, 2) := by decide +kernel
theorem dX11_streamBears_39 : decode cX11_streamBears 39 = .ok (.iaload, 1) := by decide +kernel
theorem dX11_streamBears_40 : decode cX11_streamBears 40 = .ok (.aload_n 0, 1) := by decide +kernel
theorem dX11_streamBears_41 : decode cX11_streamBears 41 = .ok (.getfield 29, 3) := by decide +kernel
theorem dX11_streamBears_44 : decode cX11_streamBears 44 = .ok (.getfield 166, 3) := by decide +kernel
theorem dX11_streamBears_47 : decode cX11_streamBears 47 = .ok (.iload 5, 2) := by decide +kernel
theorem dX11_streamBears_49 : decode cX11_streamBears 49 = .ok (.iaload, 1) := by decide +kernel
theorem dX11_streamBears_50 : decode cX11_streamBears 50 = .ok (.isub, 1) := by decide +kernel
theorem dX11_streamBears_51 : decode cX11_streamBears 51 = .ok (.iadd, 1) := by decide +kernel
theorem dX11_streamBears_52 : decode cX11_streamBears 52 = .ok (.istore 4, 2) := by decide +kernel
theorem dX11_streamBears_54 : decode cX11_streamBears 54 = .ok (.iload_n 2, 1) := by decide +kernel
theorem dX11_streamBears_55 : decode cX11_streamBears 55 = .ok (.iload 5, 2) := by decide +kernel
theorem dX11_streamBears_57 : decode cX11_streamBears 57 = .ok (.ishr, 1) := by decide +kernel
theorem dX11_streamBears_58 : decode cX11_streamBears 58 = .ok (.iconst 1, 1) := by decide +kernel
theorem dX11_streamBears_59 : decode cX11_streamBears 59 = .ok (.iand, 1) := by decide +kernel
theorem dX11_streamBears_60 : decode cX11_streamBears 60 = .ok (.ifCond .ne 20, 3) := by decide +kernel
theorem dX11_streamBears_63 : decode cX11_streamBears 63 = .ok (.iload 4, 2) := by decide +kernel
theorem dX11_streamBears_65 : decode cX11_streamBears 65 = .ok (.aload_n 0, 1) := by decide +kernel
theorem dX11_streamBears_66 : decode cX11_streamBears 66 = .ok (.getfield 19, 3) := by decide +kernel
theorem dX11_streamBears_69 : decode cX11_streamBears 69 = .ok (.getfield 160, 3) := by decide +kernel
theorem dX11_streamBears_72 : decode cX11_streamBears 72 = .ok (.iload 5, 2) := by decide +kernel
theorem dX11_streamBears_74 : decode cX11_streamBears 74 = .ok (.iaload, 1) := by decide +kernel
theorem dX11_streamBears_75 : decode cX11_streamBears 75 = .ok (.iload_n 3, 1) := by decide +kernel
theorem dX11_streamBears_76 : decode cX11_streamBears 76 = .ok (.imul, 1) := by decide +kernel
theorem dX11_streamBears_77 : decode cX11_streamBears 77 = .ok (.isub, 1) := by decide +kernel
theorem dX11_streamBears_78 : decode cX11_streamBears 78 = .ok (.istore 4, 2) := by decide +kernel
theorem dX11_streamBears_80 : decode cX11_streamBears 80 = .ok (.iinc 5 1, 3) := by decide +kernel
theorem dX11_streamBears_83 : decode cX11_streamBears 83 = .ok (.goto (-77), 3) := by decide +kernel
theorem dX11_streamBears_86 : decode cX11_streamBears 86 = .ok (.iload 4, 2) := by decide +kernel
theorem dX11_streamBears_88 : decode cX11_streamBears 88 = .ok (.ifCond .lt 7, 3) := by decide +kernel
theorem dX11_streamBears_91 : decode cX11_streamBears 91 = .ok (.iconst 1, 1) := by decide +kernel
theorem dX11_streamBears_92 : decode cX11_streamBears 92 = .ok (.goto 4, 3) := by decide +kernel
theorem dX11_streamBears_95 : decode cX11_streamBears 95 = .ok (.iconst 0, 1) := by decide +kernel
theorem dX11_streamBears_96 : decode cX11_streamBears 96 = .ok (.ireturn, 1) := by decide +kernel
theorem dX12_init_0 : decode cX12_init 0 = .ok (.aload_n 0, 1) := by decide +kernel
theorem dX12_init_1 : decode cX12_init 1 = .ok (.invokespecial 1, 3) := by decide +kernel
theorem dX12_init_4 : decode cX12_init 4 = .ok (.aload_n 0, 1) := by decide +kernel
theorem dX12_init_5 : decode cX12_init 5 = .ok (.bipush 27, 2) := by decide +kernel
theorem dX12_init_7 : decode cX12_init 7 = .ok (.newarray .int, 2) := by decide +kernel
theorem dX12_init_9 : decode cX12_init 9 = .ok (.putfield 7, 3) := by decide +kernel
theorem dX12_init_12 : decode cX12_init 12 = .ok (.aload_n 0, 1) := by decide +kernel
theorem dX12_init_13 : decode cX12_init 13 = .ok (.bipush 27, 2) := by decide +kernel
theorem dX12_init_15 : decode cX12_init 15 = .ok (.newarray .int, 2) := by decide +kernel
theorem dX12_init_17 : decode cX12_init 17 = .ok (.putfield 13, 3) := by decide +kernel
theorem dX12_init_20 : decode cX12_init 20 = .ok (.aload_n 0, 1) := by decide +kernel
theorem dX12_init_21 : decode cX12_init 21 = .ok (.bipush 19, 2) := by decide +kernel
theorem dX12_init_23 : decode cX12_init 23 = .ok (.newarray .int, 2) := by decide +kernel
theorem dX12_init_25 : decode cX12_init 25 = .ok (.putfield 16, 3) := by decide +kernel
theorem dX12_init_28 : decode cX12_init 28 = .ok (.aload_n 0, 1) := by decide +kernel
theorem dX12_init_29 : decode cX12_init 29 = .ok (.bipush 19, 2) := by decide +kernel
theorem dX12_init_31 : decode cX12_init 31 = .ok (.newarray .int, 2) := by decide +kernel
theorem dX12_init_33 : decode cX12_init 33 = .ok (.putfield 19, 3) := by decide +kernel
theorem dX12_init_36 : decode cX12_init 36 = .ok (.aload_n 0, 1) := by decide +kernel
theorem dX12_init_37 : decode cX12_init 37 = .ok (.sipush 570, 3) := by decide +kernel
theorem dX12_init_40 : decode cX12_init 40 = .ok (.newarray .int, 2) := by decide +kernel
theorem dX12_init_42 : decode cX12_init 42 = .ok (.putfield 22, 3) := by decide +kernel
theorem dX12_init_45 : decode cX12_init 45 = .ok (.aload_n 0, 1) := by decide +kernel
theorem dX12_init_46 : decode cX12_init 46 = .ok (.bipush 40, 2) := by decide +kernel
theorem dX12_init_48 : decode cX12_init 48 = .ok (.newarray .int, 2) := by decide +kernel
theorem dX12_init_50 : decode cX12_init 50 = .ok (.putfield 25, 3) := by decide +kernel
theorem dX12_init_53 : decode cX12_init 53 = .ok (.aload_n 0, 1) := by decide +kernel
theorem dX12_init_54 : decode cX12_init 54 = .ok (.iconst 2, 1) := by decide +kernel
theorem dX12_init_55 : decode cX12_init 55 = .ok (.newarray .boolean, 2) := by decide +kernel
theorem dX12_init_57 : decode cX12_init 57 = .ok (.putfield 28, 3) := by decide +kernel
theorem dX12_init_60 : decode cX12_init 60 = .ok (.aload_n 0, 1) := by decide +kernel
theorem dX12_init_61 : decode cX12_init 61 = .ok (.sipush 200, 3) := by decide +kernel
theorem dX12_init_64 : decode cX12_init 64 = .ok (.newarray .int, 2) := by decide +kernel
theorem dX12_init_66 : decode cX12_init 66 = .ok (.putfield 32, 3) := by decide +kernel
theorem dX12_init_69 : decode cX12_init 69 = .ok (.aload_n 0, 1) := by decide +kernel
theorem dX12_init_70 : decode cX12_init 70 = .ok (.iconst (-1), 1) := by decide +kernel
theorem dX12_init_71 : decode cX12_init 71 = .ok (.putfield 35, 3) := by decide +kernel
theorem dX12_init_74 : decode cX12_init 74 = .ok (.aload_n 0, 1) := by decide +kernel
theorem dX12_init_75 : decode cX12_init 75 = .ok (.bipush 12, 2) := by decide +kernel
theorem dX12_init_77 : decode cX12_init 77 = .ok (.newarray .int, 2) := by decide +kernel
theorem dX12_init_79 : decode cX12_init 79 = .ok (.putfield 39, 3) := by decide +kernel
theorem dX12_init_82 : decode cX12_init 82 = .ok (.aload_n 0, 1) := by decide +kernel
theorem dX12_init_83 : decode cX12_init 83 = .ok (.bipush 40, 2) := by decide +kernel
theorem dX12_init_85 : decode cX12_init 85 = .ok (.newarray .int, 2) := by decide +kernel
theorem dX12_init_87 : decode cX12_init 87 = .ok (.putfield 42, 3) := by decide +kernel
theorem dX12_init_90 : decode cX12_init 90 = .ok (.aload_n 0, 1) := by decide +kernel
theorem dX12_init_91 : decode cX12_init 91 = .ok (.bipush 8, 2) := by decide +kernel
theorem dX12_init_93 : decode cX12_init 93 = .ok (.newarray .int, 2) := by decide +kernel
theorem dX12_init_95 : decode cX12_init 95 = .ok (.putfield 45, 3) := by decide +kernel
theorem dX12_init_98 : decode cX12_init 98 = .ok (.aload_n 0, 1) := by decide +kernel
theorem dX12_init_99 : decode cX12_init 99 = .ok (.bipush 8, 2) := by decide +kernel
theorem dX12_init_101 : decode cX12_init 101 = .ok (.newarray .int, 2) := by decide +kernel
theorem dX12_init_103 : decode cX12_init 103 = .ok (.putfield 48, 3) := by decide +kernel
theorem dX12_init_106 : decode cX12_init 106 = .ok (.aload_n 0, 1) := by decide +kernel
theorem dX12_init_107 : decode cX12_init 107 = .ok (.bipush 8, 2) := by decide +kernel
theorem dX12_init_109 : decode cX12_init 109 = .ok (.newarray .int, 2) := by decide +kernel
theorem dX12_init_111 : decode cX12_init 111 = .ok (.putfield 51, 3) := by decide +kernel
theorem dX12_init_114 : decode cX12_init 114 = .ok (.return_, 1) := by decide +kernel
theorem dX12_in_0 : decode cX12_in 0 = .ok (.lload_n 0, 1) := by decide +kernel
theorem dX12_in_1 : decode cX12_in 1 = .ok (.lload_n 2, 1) := by decide +kernel
theorem dX12_in_2 : decode cX12_in 2 = .ok (.lcmp, 1) := by decide +kernel
theorem dX12_in_3 : decode cX12_in 3 = .ok (.ifCond .lt 14, 3) := by decide +kernel
theorem dX12_in_6 : decode cX12_in 6 = .ok (.lload_n 0, 1) := by decide +kernel
theorem dX12_in_7 : decode cX12_in 7 = .ok (.lload 4, 2) := by decide +kernel
theorem dX12_in_9 : decode cX12_in 9 = .ok (.lcmp, 1) := by decide +kernel
theorem dX12_in_10 : decode cX12_in 10 = .ok (.ifCond .gt 7, 3) := by decide +kernel
theorem dX12_in_13 : decode cX12_in 13 = .ok (.iconst 1, 1) := by decide +kernel
theorem dX12_in_14 : decode cX12_in 14 = .ok (.goto 4, 3) := by decide +kernel
theorem dX12_in_17 : decode cX12_in 17 = .ok (.iconst 0, 1) := by decide +kernel
theorem dX12_in_18 : decode cX12_in 18 = .ok (.ireturn, 1) := by decide +kernel
theorem dX12_has_0 : decode cX12_has 0 = .ok (.iload_n 0, 1) := by decide +kernel
theorem dX12_has_1 : decode cX12_has 1 = .ok (.iload_n 1, 1) := by decide +kernel
theorem dX12_has_2 : decode cX12_has 2 = .ok (.ishr, 1) := by decide +kernel
theorem dX12_has_3 : decode cX12_has 3 = .ok (.iconst 1, 1) := by decide +kernel
theorem dX12_has_4 : decode cX12_has 4 = .ok (.iand, 1) := by decide +kernel
theorem dX12_has_5 : decode cX12_has 5 = .ok (.iconst 1, 1) := by decide +kernel
theorem dX12_has_6 : decode cX12_has 6 = .ok (.if_icmp .ne 7, 3) := by decide +kernel
theorem dX12_has_9 : decode cX12_has 9 = .ok (.iconst 1, 1) := by decide +kernel
theorem dX12_has_10 : decode cX12_has 10 = .ok (.goto 4, 3) := by decide +kernel
theorem dX12_has_13 : decode cX12_has 13 = .ok (.iconst 0, 1) := by decide +kernel
theorem dX12_has_14 : decode cX12_has 14 = .ok (.ireturn, 1) := by decide +kernel
theorem dX12_bits_0 : decode cX12_bits 0 = .ok (.iconst 0, 1) := by decide +kernel
theorem dX12_bits_1 : decode cX12_bits 1 = .ok (.istore_n 1, 1) := by decide +kernel
theorem dX12_bits_2 : decode cX12_bits 2 = .ok (.iload_n 0, 1) := by decide +kernel
theorem dX12_bits_3 : decode cX12_bits 3 = .ok (.istore_n 2, 1) := by decide +kernel
theorem dX12_bits_4 : decode cX12_bits 4 = .ok (.iload_n 2, 1) := by decide +kernel
theorem dX12_bits_5 : decode cX12_bits 5 = .ok (.ifCond .eq 15, 3) := by decide +kernel
theorem dX12_bits_8 : decode cX12_bits 8 = .ok (.iinc 1 1, 3) := by decide +kernel
theorem dX12_bits_11 : decode cX12_bits 11 = .ok (.iload_n 2, 1) := by decide +kernel
theorem dX12_bits_12 : decode cX12_bits 12 = .ok (.iload_n 2, 1) := by decide +kernel
theorem dX12_bits_13 : decode cX12_bits 13 = .ok (.iconst 1, 1) := by decide +kernel
theorem dX12_bits_14 : decode cX12_bits 14 = .ok (.isub, 1) := by decide +kernel
theorem dX12_bits_15 : decode cX12_bits 15 = .ok (.iand, 1) := by decide +kernel
theorem dX12_bits_16 : decode cX12_bits 16 = .ok (.istore_n 2, 1) := by decide +kernel
theorem dX12_bits_17 : decode cX12_bits 17 = .ok (.goto (-13), 3) := by decide +kernel
theorem dX12_bits_20 : decode cX12_bits 20 = .ok (.iload_n 1, 1) := by decide +kernel
theorem dX12_bits_21 : decode cX12_bits 21 = .ok (.ireturn, 1) := by decide +kernel
theorem dX12_lesser_0 : decode cX12_lesser 0 = .ok (.iload_n 0, 1) := by decide +kernel
theorem dX12_lesser_1 : decode cX12_lesser 1 = .ok (.iload_n 1, 1) := by decide +kernel
theorem dX12_lesser_2 : decode cX12_lesser 2 = .ok (.if_icmp .ge 7, 3) := by decide +kernel
theorem dX12_lesser_5 : decode cX12_lesser 5 = .ok (.iload_n 0, 1) := by decide +kernel
theorem dX12_lesser_6 : decode cX12_lesser 6 = .ok (.goto 4, 3) := by decide +kernel
theorem dX12_lesser_9 : decode cX12_lesser 9 = .ok (.iload_n 1, 1) := by decide +kernel
theorem dX12_lesser_10 : decode cX12_lesser 10 = .ok (.ireturn, 1) := by decide +kernel
theorem dX12_copies_0 : decode cX12_copies 0 = .ok (.iconst 0, 1) := by decide +kernel
theorem dX12_copies_1 : decode cX12_copies 1 = .ok (.istore 5, 2) := by decide +kernel
theorem dX12_copies_3 : decode cX12_copies 3 = .ok (.iload 5, 2) := by decide +kernel
theorem dX12_copies_5 : decode cX12_copies 5 = .ok (.iload 4, 2) := by decide +kernel
theorem dX12_copies_7 : decode cX12_copies 7 = .ok (.if_icmp .ge 21, 3) := by decide +kernel
theorem dX12_copies_10 : decode cX12_copies 10 = .ok (.aload_n 2, 1) := by decide +kernel
theorem dX12_copies_11 : decode cX12_copies 11 = .ok (.iload_n 3, 1) := by decide +kernel
theorem dX12_copies_12 : decode cX12_copies 12 = .ok (.iload 5, 2) := by decide +kernel
theorem dX12_copies_14 : decode cX12_copies 14 = .ok (.iadd, 1) := by decide +kernel
theorem dX12_copies_15 : decode cX12_copies 15 = .ok (.aload_n 0, 1) := by decide +kernel
theorem dX12_copies_16 : decode cX12_copies 16 = .ok (.iload_n 1, 1) := by decide +kernel
theorem dX12_copies_17 : decode cX12_copies 17 = .ok (.iload 5, 2) := by decide +kernel
theorem dX12_copies_19 : decode cX12_copies 19 = .ok (.iadd, 1) := by decide +kernel
theorem dX12_copies_20 : decode cX12_copies 20 = .ok (.iaload, 1) := by decide +kernel
theorem dX12_copies_21 : decode cX12_copies 21 = .ok (.iastore, 1) := by decide +kernel
theorem dX12_copies_22 : decode cX12_copies 22 = .ok (.iinc 5 1, 3) := by decide +kernel
theorem dX12_copies_25 : decode cX12_copies 25 = .ok (.goto (-22), 3) := by decide +kernel
theorem dX12_copies_28 : decode cX12_copies 28 = .ok (.return_, 1) := by decide +kernel
theorem dX12_begins_0 : decode cX12_begins 0 = .ok (.iconst 0, 1) := by decide +kernel
theorem dX12_begins_1 : decode cX12_begins 1 = .ok (.istore_n 1, 1) := by decide +kernel
theorem dX12_begins_2 : decode cX12_begins 2 = .ok (.iload_n 1, 1) := by decide +kernel
theorem dX12_begins_3 : decode cX12_begins 3 = .ok (.bipush 19, 2) := by decide +kernel
theorem dX12_begins_5 : decode cX12_begins 5 = .ok (.if_icmp .ge 16, 3) := by decide +kernel
theorem dX12_begins_8 : decode cX12_begins 8 = .ok (.aload_n 0, 1) := by decide +kernel
theorem dX12_begins_9 : decode cX12_begins 9 = .ok (.getfield 16, 3) := by decide +kernel
theorem dX12_begins_12 : decode cX12_begins 12 = .ok (.iload_n 1, 1) := by decide +kernel
theorem dX12_begins_13 : decode cX12_begins 13 = .ok (.iconst 0, 1) := by decide +kernel
theorem dX12_begins_14 : decode cX12_begins 14 = .ok (.iastore, 1) := by decide +kernel
theorem dX12_begins_15 : decode cX12_begins 15 = .ok (.iinc 1 1, 3) := by decide +kernel
theorem dX12_begins_18 : decode cX12_begins 18 = .ok (.goto (-16), 3) := by decide +kernel
theorem dX12_begins_21 : decode cX12_begins 21 = .ok (.aload_n 0, 1) := by decide +kernel
theorem dX12_begins_22 : decode cX12_begins 22 = .ok (.iconst 0, 1) := by decide +kernel
theorem dX12_begins_23 : decode cX12_begins 23 = .ok (.putfield 54, 3) := by decide +kernel
theorem dX12_begins_26 : decode cX12_begins 26 = .ok (.aload_n 0, 1) := by decide +kernel
theorem dX12_begins_27 : decode cX12_begins 27 = .ok (.iconst 0, 1) := by decide +kernel
theorem dX12_begins_28 : decode cX12_begins 28 = .ok (.putfield 57, 3) := by decide +kernel
theorem dX12_begins_31 : decode cX12_begins 31 = .ok (.aload_n 0, 1) := by decide +kernel
theorem dX12_begins_32 : decode cX12_begins 32 = .ok (.iconst 0, 1) := by decide +kernel
theorem dX12_begins_33 : decode cX12_begins 33 = .ok (.putfield 60, 3) := by decide +kernel
theorem dX12_begins_36 : decode cX12_begins 36 = .ok (.aload_n 0, 1) := by decide +kernel
theorem dX12_begins_37 : decode cX12_begins 37 = .ok (.getfield 28, 3) := by decide +kernel
theorem dX12_begins_40 : decode cX12_begins 40 = .ok (.iconst 0, 1) := by decide +kernel
theorem dX12_begins_41 : decode cX12_begins 41 = .ok (.iconst 0, 1) := by decide +kernel
theorem dX12_begins_42 : decode cX12_begins 42 = .ok (.bastore, 1) := by decide +kernel
theorem dX12_begins_43 : decode cX12_begins 43 = .ok (.aload_n 0, 1) := by decide +kernel
theorem dX12_begins_44 : decode cX12_begins 44 = .ok (.getfield 28, 3) := by decide +kernel
theorem dX12_begins_47 : decode cX12_begins 47 = .ok (.iconst 1, 1) := by decide +kernel
theorem dX12_begins_48 : decode cX12_begins 48 = .ok (.iconst 0, 1) := by decide +kernel
theorem dX12_begins_49 : decode cX12_begins 49 = .ok (.bastore, 1) := by decide +kernel
theorem dX12_begins_50 : decode cX12_begins 50 = .ok (.return_, 1) := by decide +kernel
set_option maxRecDepth 20000 in
theorem ggX12_feed_X12_in : GoodIn wsX12_feed wsX12_in := goodIn_r _ [9] (by decide +kernel) (by decide +kernel)
set_option maxRecDepth 20000 in
theorem gX12_feed_X12_in : GoodIn wsX12_feed (va_wsS RX12 65 yX12_in wsX12_in) := goodIn_app (goodIn_of _ (by decide +kernel)) ggX12_feed_X12_in
theorem dX12_feed_0 : decode cX12_feed 0 = .ok (.iload_n 1, 1) := by decide +kernel
theorem dX12_feed_1 : decode cX12_feed 1 = .ok (.i2l, 1) := by decide +kernel
theorem dX12_feed_2 : decode cX12_feed 2 = .ok (.lconst 0, 1) := by decide +kernel
theorem dX12_feed_3 : decode cX12_feed 3 = .ok (.ldc2_w 63, 3) := by decide +kernel
theorem dX12_feed_6 : decode cX12_feed 6 = .ok (.invokestatic 65, 3) := by decide +kernel
theorem dX12_feed_9 : decode cX12_feed 9 = .ok (.ifCond .ne 6, 3) := by decide +kernel
theorem dX12_feed_12 : decode cX12_feed 12 = .ok (.ldc 69, 2) := by decide +kernel
theorem dX12_feed_14 : decode cX12_feed 14 = .ok (.ireturn, 1) := by decide +kernel
theorem dX12_feed_15 : decode cX12_feed 15 = .ok (.aload_n 0, 1) := by decide +kernel
theorem dX12_feed_16 : decode cX12_feed 16 = .ok (.getfield 70, 3) := by decide +kernel
theorem dX12_feed_19 : decode cX12_feed 19 = .ok (.sipush 200, 3) := by decide +kernel
theorem dX12_feed_22 : decode cX12_feed 22 = .ok (.if_icmp .ne 6, 3) := by decide +kernel
theorem dX12_feed_25 : decode cX12_feed 25 = .ok (.ldc 73, 2) := by decide +kernel
theorem dX12_feed_27 : decode cX12_feed 27 = .ok (.ireturn, 1) := by decide +kernel
theorem dX12_feed_28 : decode cX12_feed 28 = .ok (.aload_n 0, 1) := by decide +kernel
theorem dX12_feed_29 : decode cX12_feed 29 = .ok (.getfield 32, 3) := by decide +kernel
theorem dX12_feed_32 : decode cX12_feed 32 = .ok (.aload_n 0, 1) := by decide +kernel
theorem dX12_feed_33 : decode cX12_feed 33 = .ok (.getfield 70, 3) := by decide +kernel
theorem dX12_feed_36 : decode cX12_feed 36 = .ok (.iload_n 1, 1) := by decide +kernel
theorem dX12_feed_37 : decode cX12_feed 37 = .ok (.iastore, 1) := by decide +kernel
theorem dX12_feed_38 : decode cX12_feed 38 = .ok (.aload_n 0, 1) := by decide +kernel
theorem dX12_feed_39 : decode cX12_feed 39 = .ok (.dup, 1) := by decide +kernel
theorem dX12_feed_40 : decode cX12_feed 40 = .ok (.getfield 70, 3) := by decide +kernel
theorem dX12_feed_43 : decode cX12_feed 43 = .ok (.iconst 1, 1) := by decide +kernel
theorem dX12_feed_44 : decode cX12_feed 44 = .ok (.iadd, 1) := by decide +kernel
theorem dX12_feed_45 : decode cX12_feed 45 = .ok (.putfield 70, 3) := by decide +kernel
theorem dX12_feed_48 : decode cX12_feed 48 = .ok (.aload_n 0, 1) := by decide +kernel
theorem dX12_feed_49 : decode cX12_feed 49 = .ok (.getfield 70, 3) := by decide +kernel
theorem dX12_feed_52 : decode cX12_feed 52 = .ok (.ireturn, 1) := by decide +kernel
theorem dX12_here_0 : decode cX12_here 0 = .ok (.aload_n 0, 1) := by decide +kernel
theorem dX12_here_1 : decode cX12_here 1 = .ok (.getfield 74, 3) := by decide +kernel
theorem dX12_here_4 : decode cX12_here 4 = .ok (.aload_n 0, 1) := by decide +kernel
theorem dX12_here_5 : decode cX12_here 5 = .ok (.getfield 70, 3) := by decide +kernel
theorem dX12_here_8 : decode cX12_here 8 = .ok (.if_icmp .ge 15, 3) := by decide +kernel
theorem dX12_here_11 : decode cX12_here 11 = .ok (.aload_n 0, 1) := by decide +kernel
theorem dX12_here_12 : decode cX12_here 12 = .ok (.getfield 32, 3) := by decide +kernel
theorem dX12_here_15 : decode cX12_here 15 = .ok (.aload_n 0, 1) := by decide +kernel
theorem dX12_here_16 : decode cX12_here 16 = .ok (.getfield 74, 3) := by decide +kernel
theorem dX12_here_19 : decode cX12_here 19 = .ok (.iaload, 1) := by decide +kernel
theorem dX12_here_20 : decode cX12_here 20 = .ok (.goto 4, 3) := by decide +kernel
theorem dX12_here_23 : decode cX12_here 23 = .ok (.iconst (-1), 1) := by decide +kernel
theorem dX12_here_24 : decode cX12_here 24 = .ok (.ireturn, 1) := by decide +kernel
set_option maxRecDepth 20000 in
theorem ggX12_step_X12_here : GoodIn wsX12_step wsX12_here := goodIn_r _ [12, 1, 13, 14, 18, 19, 20, 21, 22, 23, 24, 25, 26, 27, 28, 29, 30, 31, 32, 33, 34, 35, 36, 37, 38, 39, 40, 41, 42] (by decide +kernel) (by decide +kernel)
set_option maxRecDepth 20000 in
theorem gX12_step_X12_here : GoodIn wsX12_step (wsV RX12 77 RX12 yX12_here wsX12_here) := goodIn_app (goodIn_of _ (by decide +kernel)) ggX12_step_X12_here
set_option maxRecDepth 20000 in
theorem ggX12_step_X12_in : GoodIn wsX12_step wsX12_in := goodIn_r _ [17] (by decide +kernel) (by decide +kernel)
set_option maxRecDepth 20000 in
theorem gX12_step_X12_in : GoodIn wsX12_step (va_wsS RX12 65 yX12_in wsX12_in) := goodIn_app (goodIn_of _ (by decide +kernel)) ggX12_step_X12_in
theorem dX12_step_0 : decode cX12_step 0 = .ok (.aload_n 0, 1) := by decide +kernel
theorem dX12_step_1 : decode cX12_step 1 = .ok (.invokevirtual 77, 3) := by decide +kernel
theorem dX12_step_4 : decode cX12_step 4 = .ok (.bipush 32, 2) := by decide +kernel
theorem dX12_step_6 : decode cX12_step 6 = .ok (.if_icmp .ne 16, 3) := by decide +kernel
theorem dX12_step_9 : decode cX12_step 9 = .ok (.aload_n 0, 1) := by decide +kernel
theorem dX12_step_10 : decode cX12_step 10 = .ok (.dup, 1) := by decide +kernel
theorem dX12_step_11 : decode cX12_step 11 = .ok (.getfield 74, 3) := by decide +kernel
theorem dX12_step_14 : decode cX12_step 14 = .ok (.iconst 1, 1) := by decide +kernel
theorem dX12_step_15 : decode cX12_step 15 = .ok (.iadd, 1) := by decide +kernel
theorem dX12_step_16 : decode cX12_step 16 = .ok (.putfield 74, 3) := by decide +kernel
theorem dX12_step_19 : decode cX12_step 19 = .ok (.goto (-19), 3) := by decide +kernel
theorem dX12_step_22 : decode cX12_step 22 = .ok (.aload_n 0, 1) := by decide +kernel
theorem dX12_step_23 : decode cX12_step 23 = .ok (.aload_n 0, 1) := by decide +kernel
theorem dX12_step_24 : decode cX12_step 24 = .ok (.getfield 74, 3) := by decide +kernel
theorem dX12_step_27 : decode cX12_step 27 = .ok (.putfield 81, 3) := by decide +kernel
theorem dX12_step_30 : decode cX12_step 30 = .ok (.aload_n 0, 1) := by decide +kernel
theorem dX12_step_31 : decode cX12_step 31 = .ok (.aload_n 0, 1) := by decide +kernel
theorem dX12_step_32 : decode cX12_step 32 = .ok (.invokevirtual 77, 3) := by decide +kernel
theorem dX12_step_35 : decode cX12_step 35 = .ok (.putfield 84, 3) := by decide +kernel
theorem dX12_step_38 : decode cX12_step 38 = .ok (.aload_n 0, 1) := by decide +kernel
theorem dX12_step_39 : decode cX12_step 39 = .ok (.iconst 0, 1) := by decide +kernel
theorem dX12_step_40 : decode cX12_step 40 = .ok (.putfield 87, 3) := by decide +kernel
theorem dX12_step_43 : decode cX12_step 43 = .ok (.aload_n 0, 1) := by decide +kernel
theorem dX12_step_44 : decode cX12_step 44 = .ok (.iconst 0, 1) := by decide +kernel
theorem dX12_step_45 : decode cX12_step 45 = .ok (.putfield 90, 3) := by decide +kernel
theorem dX12_step_48 : decode cX12_step 48 = .ok (.aload_n 0, 1) := by decide +kernel
theorem dX12_step_49 : decode cX12_step 49 = .ok (.getfield 84, 3) := by decide +kernel
theorem dX12_step_52 : decode cX12_step 52 = .ok (.i2l, 1) := by decide +kernel
theorem dX12_step_53 : decode cX12_step 53 = .ok (.ldc2_w 93, 3) := by decide +kernel
theorem dX12_step_56 : decode cX12_step 56 = .ok (.ldc2_w 95, 3) := by decide +kernel
theorem dX12_step_59 : decode cX12_step 59 = .ok (.invokestatic 65, 3) := by decide +kernel
theorem dX12_step_62 : decode cX12_step 62 = .ok (.ifCond .ne 25, 3) := by decide +kernel
theorem dX12_step_65 : decode cX12_step 65 = .ok (.aload_n 0, 1) := by decide +kernel
theorem dX12_step_66 : decode cX12_step 66 = .ok (.dup, 1) := by decide +kernel
theorem dX12_step_67 : decode cX12_step 67 = .ok (.getfield 74, 3) := by decide +kernel
theorem dX12_step_70 : decode cX12_step 70 = .ok (.aload_n 0, 1) := by decide +kernel
theorem dX12_step_71 : decode cX12_step 71 = .ok (.getfield 84, 3) := by decide +kernel
theorem dX12_step_74 : decode cX12_step 74 = .ok (.ifCond .ge 7, 3) := by decide +kernel
theorem dX12_step_77 : decode cX12_step 77 = .ok (.iconst 0, 1) := by decide +kernel
theorem dX12_step_78 : decode cX12_step 78 = .ok (.goto 4, 3) := by decide +kernel
theorem dX12_step_81 : decode cX12_step 81 = .ok (.iconst 1, 1) := by decide +kernel
theorem dX12_step_82 : decode cX12_step 82 = .ok (.iadd, 1) := by decide +kernel
theorem dX12_step_83 : decode cX12_step 83 = .ok (.putfield 74, 3) := by decide +kernel
theorem dX12_step_86 : decode cX12_step 86 = .ok (.return_, 1) := by decide +kernel
theorem dX12_step_87 : decode cX12_step 87 = .ok (.aload_n 0, 1) := by decide +kernel
theorem dX12_step_88 : decode cX12_step 88 = .ok (.bipush 48, 2) := by decide +kernel
theorem dX12_step_90 : decode cX12_step 90 = .ok (.putfield 84, 3) := by decide +kernel
theorem dX12_step_93 : decode cX12_step 93 = .ok (.aload_n 0, 1) := by decide +kernel
theorem dX12_step_94 : decode cX12_step 94 = .ok (.invokevirtual 77, 3) := by decide +kernel
theorem dX12_step_97 : decode cX12_step 97 = .ok (.i2l, 1) := by decide +kernel
theorem dX12_step_98 : decode cX12_step 98 = .ok (.ldc2_w 93, 3) := by decide +kernel
theorem dX12_step_101 : decode cX12_step 101 = .ok (.ldc2_w 95, 3) := by decide +kernel
theorem dX12_step_104 : decode cX12_step 104 = .ok (.invokestatic 65, 3) := by decide +kernel
theorem dX12_step_107 : decode cX12_step 107 = .ok (.ifCond .eq 60, 3) := by decide +kernel
theorem dX12_step_110 : decode cX12_step 110 = .ok (.aload_n 0, 1) := by decide +kernel
theorem dX12_step_111 : decode cX12_step 111 = .ok (.aload_n 0, 1) := by decide +kernel
theorem dX12_step_112 : decode cX12_step 112 = .ok (.getfield 87, 3) := by decide +kernel
theorem dX12_step_115 : decode cX12_step 115 = .ok (.iconst 3, 1) := by decide +kernel
theorem dX12_step_116 : decode cX12_step 116 = .ok (.if_icmp .ge 21, 3) := by decide +kernel
theorem dX12_step_119 : decode cX12_step 119 = .ok (.bipush 10, 2) := by decide +kernel
theorem dX12_step_121 : decode cX12_step 121 = .ok (.aload_n 0, 1) := by decide +kernel
theorem dX12_step_122 : decode cX12_step 122 = .ok (.getfield 90, 3) := by decide +kernel
theorem dX12_step_125 : decode cX12_step 125 = .ok (.imul, 1) := by decide +kernel
theorem dX12_step_126 : decode cX12_step 126 = .ok (.aload_n 0, 1) := by decide +kernel
theorem dX12_step_127 : decode cX12_step 127 = .ok (.invokevirtual 77, 3) := by decide +kernel
theorem dX12_step_130 : decode cX12_step 130 = .ok (.iadd, 1) := by decide +kernel
theorem dX12_step_131 : decode cX12_step 131 = .ok (.bipush 48, 2) := by decide +kernel
theorem dX12_step_133 : decode cX12_step 133 = .ok (.isub, 1) := by decide +kernel
theorem dX12_step_134 : decode cX12_step 134 = .ok (.goto 7, 3) := by decide +kernel
theorem dX12_step_137 : decode cX12_step 137 = .ok (.aload_n 0, 1) := by decide +kernel
theorem dX12_step_138 : decode cX12_step 138 = .ok (.getfield 90, 3) := by decide +kernel
theorem dX12_step_141 : decode cX12_step 141 = .ok (.putfield 90, 3) := by decide +kernel
theorem dX12_step_144 : decode cX12_step 144 = .ok (.aload_n 0, 1) := by decide +kernel
theorem dX12_step_145 : decode cX12_step 145 = .ok (.dup, 1) := by decide +kernel
theorem dX12_step_146 : decode cX12_step 146 = .ok (.getfield 87, 3) := by decide +kernel
theorem dX12_step_149 : decode cX12_step 149 = .ok (.iconst 1, 1) := by decide +kernel
theorem dX12_step_150 : decode cX12_step 150 = .ok (.iadd, 1) := by decide +kernel
theorem dX12_step_151 : decode cX12_step 151 = .ok (.putfield 87, 3) := by decide +kernel
theorem dX12_step_154 : decode cX12_step 154 = .ok (.aload_n 0, 1) := by decide +kernel
theorem dX12_step_155 : decode cX12_step 155 = .ok (.dup, 1) := by decide +kernel
theorem dX12_step_156 : decode cX12_step 156 = .ok (.getfield 74, 3) := by decide +kernel
theorem dX12_step_159 : decode cX12_step 159 = .ok (.iconst 1, 1) := by decide +kernel
theorem dX12_step_160 : decode cX12_step 160 = .ok (.iadd, 1) := by decide +kernel
theorem dX12_step_161 : decode cX12_step 161 = .ok (.putfield 74, 3) := by decide +kernel
theorem dX12_step_164 : decode cX12_step 164 = .ok (.goto (-71), 3) := by decide +kernel
theorem dX12_step_167 : decode cX12_step 167 = .ok (.return_, 1) := by decide +kernel
theorem dX12_fails_0 : decode cX12_fails 0 = .ok (.aload_n 0, 1) := by decide +kernel
theorem dX12_fails_1 : decode cX12_fails 1 = .ok (.iload_n 1, 1) := by decide +kernel
theorem dX12_fails_2 : decode cX12_fails 2 = .ok (.putfield 97, 3) := by decide +kernel
theorem dX12_fails_5 : decode cX12_fails 5 = .ok (.iconst 0, 1) := by decide +kernel
theorem dX12_fails_6 : decode cX12_fails 6 = .ok (.ireturn, 1) := by decide +kernel
set_option maxRecDepth 20000 in
theorem ggX12_number_X12_step : GoodIn wsX12_number wsX12_step := goodIn_r _ [9, 10, 11, 1, 2, 3, 12, 13, 14, 15, 16, 8, 17, 18, 19, 20, 21, 22, 28, 29, 30, 31, 32, 33, 34, 35, 36, 37, 38, 39, 40, 41, 42, 43, 44, 45, 46, 47, 48, 49, 50, 51, 52] (by decide +kernel) (by decide +kernel)
set_option maxRecDepth 20000 in
theorem gX12_number_X12_step : GoodIn wsX12_number (wsV RX12 100 RX12 yX12_step wsX12_step) := goodIn_app (goodIn_of _ (by decide +kernel)) ggX12_number_X12_step
set_option maxRecDepth 20000 in
theorem ggX12_number_X12_fails : GoodIn wsX12_number wsX12_fails := goodIn_r _ [26, 27, 28, 29, 30, 31, 32, 33, 34, 35, 36, 37, 38, 39, 40, 41, 42, 43, 44, 45, 46, 47, 48, 49, 50, 51, 52] (by decide +kernel) (by decide +kernel)
set_option maxRecDepth 20000 in
theorem gX12_number_X12_fails : GoodIn wsX12_number (wsV RX12 103 RX12 yX12_fails wsX12_fails) := goodIn_app (goodIn_of _ (by decide +kernel)) ggX12_number_X12_fails
set_option maxRecDepth 20000 in
theorem ggX12_number_X12_in : GoodIn wsX12_number wsX12_in := goodIn_r _ [22] (by decide +kernel) (by decide +kernel)
set_option maxRecDepth 20000 in
theorem gX12_number_X12_in : GoodIn wsX12_number (va_wsS RX12 65 yX12_in wsX12_in) := goodIn_app (goodIn_of _ (by decide +kernel)) ggX12_number_X12_in
theorem dX12_number_0 : decode cX12_number 0 = .ok (.aload_n 0, 1) := by decide +kernel
theorem dX12_number_1 : decode cX12_number 1 = .ok (.invokevirtual 100, 3) := by decide +kernel
theorem dX12_number_4 : decode cX12_number 4 = .ok (.aload_n 0, 1) := by decide +kernel
theorem dX12_number_5 : decode cX12_number 5 = .ok (.getfield 84, 3) := by decide +kernel
theorem dX12_number_8 : decode cX12_number 8 = .ok (.bipush 48, 2) := by decide +kernel
theorem dX12_number_10 : decode cX12_number 10 = .ok (.if_icmp .eq 9, 3) := by decide +kernel
theorem dX12_number_13 : decode cX12_number 13 = .ok (.aload_n 0, 1) := by decide +kernel
theorem dX12_number_14 : decode cX12_number 14 = .ok (.iconst 1, 1) := by decide +kernel
theorem dX12_number_15 : decode cX12_number 15 = .ok (.invokevirtual 103, 3) := by decide +kernel
theorem dX12_number_18 : decode cX12_number 18 = .ok (.ireturn, 1) := by decide +kernel
theorem dX12_number_19 : decode cX12_number 19 = .ok (.aload_n 0, 1) := by decide +kernel
theorem dX12_number_20 : decode cX12_number 20 = .ok (.getfield 87, 3) := by decide +kernel
theorem dX12_number_23 : decode cX12_number 23 = .ok (.iconst 3, 1) := by decide +kernel
theorem dX12_number_24 : decode cX12_number 24 = .ok (.if_icmp .gt 18, 3) := by decide +kernel
theorem dX12_number_27 : decode cX12_number 27 = .ok (.aload_n 0, 1) := by decide +kernel
theorem dX12_number_28 : decode cX12_number 28 = .ok (.getfield 90, 3) := by decide +kernel
theorem dX12_number_31 : decode cX12_number 31 = .ok (.i2l, 1) := by decide +kernel
theorem dX12_number_32 : decode cX12_number 32 = .ok (.iload_n 2, 1) := by decide +kernel
theorem dX12_number_33 : decode cX12_number 33 = .ok (.i2l, 1) := by decide +kernel
theorem dX12_number_34 : decode cX12_number 34 = .ok (.iload_n 3, 1) := by decide +kernel
theorem dX12_number_35 : decode cX12_number 35 = .ok (.i2l, 1) := by decide +kernel
theorem dX12_number_36 : decode cX12_number 36 = .ok (.invokestatic 65, 3) := by decide +kernel
theorem dX12_number_39 : decode cX12_number 39 = .ok (.ifCond .ne 9, 3) := by decide +kernel
theorem dX12_number_42 : decode cX12_number 42 = .ok (.aload_n 0, 1) := by decide +kernel
theorem dX12_number_43 : decode cX12_number 43 = .ok (.iconst 2, 1) := by decide +kernel
theorem dX12_number_44 : decode cX12_number 44 = .ok (.invokevirtual 103, 3) := by decide +kernel
theorem dX12_number_47 : decode cX12_number 47 = .ok (.ireturn, 1) := by decide +kernel
theorem dX12_number_48 : decode cX12_number 48 = .ok (.aload_n 0, 1) := by decide +kernel
theorem dX12_number_49 : decode cX12_number 49 = .ok (.getfield 13, 3) := by decide +kernel
theorem dX12_number_52 : decode cX12_number 52 = .ok (.iload_n 1, 1) := by decide +kernel
theorem dX12_number_53 : decode cX12_number 53 = .ok (.aload_n 0, 1) := by decide +kernel
theorem dX12_number_54 : decode cX12_number 54 = .ok (.getfield 90, 3) := by decide +kernel
theorem dX12_number_57 : decode cX12_number 57 = .ok (.iastore, 1) := by decide +kernel
theorem dX12_number_58 : decode cX12_number 58 = .ok (.iconst 1, 1) := by decide +kernel
theorem dX12_number_59 : decode cX12_number 59 = .ok (.ireturn, 1) := by decide +kernel
set_option maxRecDepth 20000 in
theorem ggX12_ends_X12_step : GoodIn wsX12_ends wsX12_step := goodIn_r _ [6, 7, 8, 1, 9, 10, 11, 12, 13, 14, 15, 5, 16, 17, 18, 19, 20, 21, 27, 28, 29, 30, 31, 32, 33, 34, 35, 36, 37, 38, 39, 40, 41, 42, 43, 44, 45, 46, 47, 48, 49, 50, 51] (by decide +kernel) (by decide +kernel)
set_option maxRecDepth 20000 in
theorem gX12_ends_X12_step : GoodIn wsX12_ends (wsV RX12 100 RX12 yX12_step wsX12_step) := goodIn_app (goodIn_of _ (by decide +kernel)) ggX12_ends_X12_step
set_option maxRecDepth 20000 in
theorem ggX12_ends_X12_fails : GoodIn wsX12_ends wsX12_fails := goodIn_r _ [25, 26, 27, 28, 29, 30, 31, 32, 33, 34, 35, 36, 37, 38, 39, 40, 41, 42, 43, 44, 45, 46, 47, 48, 49, 50, 51] (by decide +kernel) (by decide +kernel)
set_option maxRecDepth 20000 in
theorem gX12_ends_X12_fails : GoodIn wsX12_ends (wsV RX12 103 RX12 yX12_fails wsX12_fails) := goodIn_app (goodIn_of _ (by decide +kernel)) ggX12_ends_X12_fails
theorem dX12_ends_0 : decode cX12_ends 0 = .ok (.aload_n 0, 1) := by decide +kernel
theorem dX12_ends_1 : decode cX12_ends 1 = .ok (.invokevirtual 100, 3) := by decide +kernel
theorem dX12_ends_4 : decode cX12_ends 4 = .ok (.aload_n 0, 1) := by decide +kernel
theorem dX12_ends_5 : decode cX12_ends 5 = .ok (.getfield 84, 3) := by decide +kernel
theorem dX12_ends_8 : decode cX12_ends 8 = .ok (.bipush 59, 2) := by decide +kernel
theorem dX12_ends_10 : decode cX12_ends 10 = .ok (.if_icmp .eq 11, 3) := by decide +kernel
theorem dX12_ends_13 : decode cX12_ends 13 = .ok (.aload_n 0, 1) := by decide +kernel
theorem dX12_ends_14 : decode cX12_ends 14 = .ok (.iconst 1, 1) := by decide +kernel
theorem dX12_ends_15 : decode cX12_ends 15 = .ok (.invokevirtual 103, 3) := by decide +kernel
theorem dX12_ends_18 : decode cX12_ends 18 = .ok (.ifCond .eq 7, 3) := by decide +kernel
theorem dX12_ends_21 : decode cX12_ends 21 = .ok (.iconst 1, 1) := by decide +kernel
theorem dX12_ends_22 : decode cX12_ends 22 = .ok (.goto 4, 3) := by decide +kernel
theorem dX12_ends_25 : decode cX12_ends 25 = .ok (.iconst 0, 1) := by decide +kernel
theorem dX12_ends_26 : decode cX12_ends 26 = .ok (.ireturn, 1) := by decide +kernel
set_option maxRecDepth 20000 in
theorem ggX12_readsHouse_X12_fails : GoodIn wsX12_readsHouse wsX12_fails := goodIn_r _ [7, 8, 36, 37, 38, 39, 40, 41, 42, 43, 44, 45, 46, 47, 48, 49, 50, 51, 52, 53, 54, 55, 56, 57, 58, 59, 60] (by decide +kernel) (by decide +kernel)
set_option maxRecDepth 20000 in
theorem gX12_readsHouse_X12_fails : GoodIn wsX12_readsHouse (wsV RX12 103 RX12 yX12_fails wsX12_fails) := goodIn_app (goodIn_of _ (by decide +kernel)) ggX12_readsHouse_X12_fails
set_option maxRecDepth 20000 in
theorem ggX12_readsHouse_X12_number : GoodIn wsX12_readsHouse wsX12_number := goodIn_r _ [12, 13, 14, 2, 1, 15, 16, 17, 6, 18, 19, 20, 21, 22, 23, 24, 25, 26, 27, 28, 29, 30, 31, 3, 4, 5, 7, 8, 36, 37, 38, 39, 40, 41, 42, 43, 44, 45, 46, 47, 48, 49, 50, 51, 52, 53, 54, 55, 56, 57, 58, 59, 60] (by decide +kernel) (by decide +kernel)
set_option maxRecDepth 20000 in
theorem gX12_readsHouse_X12_number : GoodIn wsX12_readsHouse (wsV RX12 107 RX12 yX12_number wsX12_number) := goodIn_app (goodIn_of _ (by decide +kernel)) ggX12_readsHouse_X12_number
set_option maxRecDepth 20000 in
theorem ggX12_readsHouse_X12_ends : GoodIn wsX12_readsHouse wsX12_ends := goodIn_r _ [35, 13, 15, 16, 17, 6, 18, 19, 20, 14, 2, 21, 22, 23, 24, 25, 26, 27, 28, 29, 30, 31, 3, 4, 5, 7, 8, 36, 37, 38, 39, 40, 41, 42, 43, 44, 45, 46, 47, 48, 49, 50, 51, 52, 53, 54, 55, 56, 57, 58, 59, 60] (by decide +kernel) (by decide +kernel)
set_option maxRecDepth 20000 in
theorem gX12_readsHouse_X12_ends : GoodIn wsX12_readsHouse (wsV RX12 111 RX12 yX12_ends wsX12_ends) := goodIn_app (goodIn_of _ (by decide +kernel)) ggX12_readsHouse_X12_ends
theorem dX12_readsHouse_0 : decode cX12_readsHouse 0 = .ok (.aload_n 0, 1) := by decide +kernel
theorem dX12_readsHouse_1 : decode cX12_readsHouse 1 = .ok (.getfield 13, 3) := by decide +kernel
theorem dX12_readsHouse_4 : decode cX12_readsHouse 4 = .ok (.iconst 2, 1) := by decide +kernel
theorem dX12_readsHouse_5 : decode cX12_readsHouse 5 = .ok (.iaload, 1) := by decide +kernel
theorem dX12_readsHouse_6 : decode cX12_readsHouse 6 = .ok (.istore_n 1, 1) := by decide +kernel
theorem dX12_readsHouse_7 : decode cX12_readsHouse 7 = .ok (.iload_n 1, 1) := by decide +kernel
theorem dX12_readsHouse_8 : decode cX12_readsHouse 8 = .ok (.bipush 8, 2) := by decide +kernel
theorem dX12_readsHouse_10 : decode cX12_readsHouse 10 = .ok (.if_icmp .ne 9, 3) := by decide +kernel
theorem dX12_readsHouse_13 : decode cX12_readsHouse 13 = .ok (.aload_n 0, 1) := by decide +kernel
theorem dX12_readsHouse_14 : decode cX12_readsHouse 14 = .ok (.iconst 3, 1) := by decide +kernel
theorem dX12_readsHouse_15 : decode cX12_readsHouse 15 = .ok (.invokevirtual 103, 3) := by decide +kernel
theorem dX12_readsHouse_18 : decode cX12_readsHouse 18 = .ok (.ireturn, 1) := by decide +kernel
theorem dX12_readsHouse_19 : decode cX12_readsHouse 19 = .ok (.aload_n 0, 1) := by decide +kernel
theorem dX12_readsHouse_20 : decode cX12_readsHouse 20 = .ok (.getfield 13, 3) := by decide +kernel
theorem dX12_readsHouse_23 : decode cX12_readsHouse 23 = .ok (.iconst 2, 1) := by decide +kernel
theorem dX12_readsHouse_24 : decode cX12_readsHouse 24 = .ok (.dup2, 1) := by decide +kernel
theorem dX12_readsHouse_25 : decode cX12_readsHouse 25 = .ok (.iaload, 1) := by decide +kernel
theorem dX12_readsHouse_26 : decode cX12_readsHouse 26 = .ok (.iconst 1, 1) := by decide +kernel
theorem dX12_readsHouse_27 : decode cX12_readsHouse 27 = .ok (.iadd, 1) := by decide +kernel
theorem dX12_readsHouse_28 : decode cX12_readsHouse 28 = .ok (.iastore, 1) := by decide +kernel
theorem dX12_readsHouse_29 : decode cX12_readsHouse 29 = .ok (.aload_n 0, 1) := by decide +kernel
theorem dX12_readsHouse_30 : decode cX12_readsHouse 30 = .ok (.iconst 3, 1) := by decide +kernel
theorem dX12_readsHouse_31 : decode cX12_readsHouse 31 = .ok (.iload_n 1, 1) := by decide +kernel
theorem dX12_readsHouse_32 : decode cX12_readsHouse 32 = .ok (.iadd, 1) := by decide +kernel
theorem dX12_readsHouse_33 : decode cX12_readsHouse 33 = .ok (.iconst 0, 1) := by decide +kernel
theorem dX12_readsHouse_34 : decode cX12_readsHouse 34 = .ok (.sipush 999, 3) := by decide +kernel
theorem dX12_readsHouse_37 : decode cX12_readsHouse 37 = .ok (.invokevirtual 107, 3) := by decide +kernel
theorem dX12_readsHouse_40 : decode cX12_readsHouse 40 = .ok (.ifCond .eq 31, 3) := by decide +kernel
theorem dX12_readsHouse_43 : decode cX12_readsHouse 43 = .ok (.aload_n 0, 1) := by decide +kernel
theorem dX12_readsHouse_44 : decode cX12_readsHouse 44 = .ok (.bipush 11, 2) := by decide +kernel
theorem dX12_readsHouse_46 : decode cX12_readsHouse 46 = .ok (.iload_n 1, 1) := by decide +kernel
theorem dX12_readsHouse_47 : decode cX12_readsHouse 47 = .ok (.iadd, 1) := by decide +kernel
theorem dX12_readsHouse_48 : decode cX12_readsHouse 48 = .ok (.iconst 0, 1) := by decide +kernel
theorem dX12_readsHouse_49 : decode cX12_readsHouse 49 = .ok (.bipush 99, 2) := by decide +kernel
theorem dX12_readsHouse_51 : decode cX12_readsHouse 51 = .ok (.invokevirtual 107, 3) := by decide +kernel
theorem dX12_readsHouse_54 : decode cX12_readsHouse 54 = .ok (.ifCond .eq 17, 3) := by decide +kernel
theorem dX12_readsHouse_57 : decode cX12_readsHouse 57 = .ok (.aload_n 0, 1) := by decide +kernel
theorem dX12_readsHouse_58 : decode cX12_readsHouse 58 = .ok (.bipush 19, 2) := by decide +kernel
theorem dX12_readsHouse_60 : decode cX12_readsHouse 60 = .ok (.iload_n 1, 1) := by decide +kernel
theorem dX12_readsHouse_61 : decode cX12_readsHouse 61 = .ok (.iadd, 1) := by decide +kernel
theorem dX12_readsHouse_62 : decode cX12_readsHouse 62 = .ok (.iconst 0, 1) := by decide +kernel
theorem dX12_readsHouse_63 : decode cX12_readsHouse 63 = .ok (.bipush 9, 2) := by decide +kernel
theorem dX12_readsHouse_65 : decode cX12_readsHouse 65 = .ok (.invokevirtual 107, 3) := by decide +kernel
theorem dX12_readsHouse_68 : decode cX12_readsHouse 68 = .ok (.ifCond .ne 5, 3) := by decide +kernel
theorem dX12_readsHouse_71 : decode cX12_readsHouse 71 = .ok (.iconst 0, 1) := by decide +kernel
theorem dX12_readsHouse_72 : decode cX12_readsHouse 72 = .ok (.ireturn, 1) := by decide +kernel
theorem dX12_readsHouse_73 : decode cX12_readsHouse 73 = .ok (.aload_n 0, 1) := by decide +kernel
theorem dX12_readsHouse_74 : decode cX12_readsHouse 74 = .ok (.getfield 90, 3) := by decide +kernel
theorem dX12_readsHouse_77 : decode cX12_readsHouse 77 = .ok (.bipush 9, 2) := by decide +kernel
theorem dX12_readsHouse_79 : decode cX12_readsHouse 79 = .ok (.if_icmp .eq 17, 3) := by decide +kernel
theorem dX12_readsHouse_82 : decode cX12_readsHouse 82 = .ok (.aload_n 0, 1) := by decide +kernel
theorem dX12_readsHouse_83 : decode cX12_readsHouse 83 = .ok (.getfield 90, 3) := by decide +kernel
theorem dX12_readsHouse_86 : decode cX12_readsHouse 86 = .ok (.iload_n 1, 1) := by decide +kernel
theorem dX12_readsHouse_87 : decode cX12_readsHouse 87 = .ok (.if_icmp .lt 9, 3) := by decide +kernel
theorem dX12_readsHouse_90 : decode cX12_readsHouse 90 = .ok (.aload_n 0, 1) := by decide +kernel
theorem dX12_readsHouse_91 : decode cX12_readsHouse 91 = .ok (.iconst 2, 1) := by decide +kernel
theorem dX12_readsHouse_92 : decode cX12_readsHouse 92 = .ok (.invokevirtual 103, 3) := by decide +kernel
theorem dX12_readsHouse_95 : decode cX12_readsHouse 95 = .ok (.ireturn, 1) := by decide +kernel
theorem dX12_readsHouse_96 : decode cX12_readsHouse 96 = .ok (.aload_n 0, 1) := by decide +kernel
theorem dX12_readsHouse_97 : decode cX12_readsHouse 97 = .ok (.getfield 13, 3) := by decide +kernel
theorem dX12_readsHouse_100 : decode cX12_readsHouse 100 = .ok (.bipush 19, 2) := by decide +kernel
theorem dX12_readsHouse_102 : decode cX12_readsHouse 102 = .ok (.iload_n 1, 1) := by decide +kernel
theorem dX12_readsHouse_103 : decode cX12_readsHouse 103 = .ok (.iadd, 1) := by decide +kernel
theorem dX12_readsHouse_104 : decode cX12_readsHouse 104 = .ok (.aload_n 0, 1) := by decide +kernel
theorem dX12_readsHouse_105 : decode cX12_readsHouse 105 = .ok (.getfield 90, 3) := by decide +kernel
theorem dX12_readsHouse_108 : decode cX12_readsHouse 108 = .ok (.bipush 9, 2) := by decide +kernel
theorem dX12_readsHouse_110 : decode cX12_readsHouse 110 = .ok (.if_icmp .ne 7, 3) := by decide +kernel
theorem dX12_readsHouse_113 : decode cX12_readsHouse 113 = .ok (.iconst (-1), 1) := by decide +kernel
theorem dX12_readsHouse_114 : decode cX12_readsHouse 114 = .ok (.goto 7, 3) := by decide +kernel
theorem dX12_readsHouse_117 : decode cX12_readsHouse 117 = .ok (.aload_n 0, 1) := by decide +kernel
theorem dX12_readsHouse_118 : decode cX12_readsHouse 118 = .ok (.getfield 90, 3) := by decide +kernel
theorem dX12_readsHouse_121 : decode cX12_readsHouse 121 = .ok (.iastore, 1) := by decide +kernel
theorem dX12_readsHouse_122 : decode cX12_readsHouse 122 = .ok (.aload_n 0, 1) := by decide +kernel
theorem dX12_readsHouse_123 : decode cX12_readsHouse 123 = .ok (.invokevirtual 111, 3) := by decide +kernel
theorem dX12_readsHouse_126 : decode cX12_readsHouse 126 = .ok (.ireturn, 1) := by decide +kernel
set_option maxRecDepth 20000 in
theorem ggX12_readsClause_X12_fails : GoodIn wsX12_readsClause wsX12_fails := goodIn_r _ [7, 8, 40, 41, 42, 43, 44, 45, 46, 47, 48, 49, 50, 51, 52, 53, 54, 55, 56, 57, 58, 59, 60, 61, 62, 63, 64] (by decide +kernel) (by decide +kernel)
set_option maxRecDepth 20000 in
theorem gX12_readsClause_X12_fails : GoodIn wsX12_readsClause (wsV RX12 103 RX12 yX12_fails wsX12_fails) := goodIn_app (goodIn_of _ (by decide +kernel)) ggX12_readsClause_X12_fails
set_option maxRecDepth 20000 in
theorem ggX12_readsClause_X12_number : GoodIn wsX12_readsClause wsX12_number := goodIn_r _ [12, 1, 13, 14, 2, 15, 16, 17, 6, 18, 19, 20, 21, 22, 23, 24, 25, 26, 27, 28, 29, 30, 31, 3, 4, 5, 7, 8, 40, 41, 42, 43, 44, 45, 46, 47, 48, 49, 50, 51, 52, 53, 54, 55, 56, 57, 58, 59, 60, 61, 62, 63, 64] (by decide +kernel) (by decide +kernel)
set_option maxRecDepth 20000 in
theorem gX12_readsClause_X12_number : GoodIn wsX12_readsClause (wsV RX12 107 RX12 yX12_number wsX12_number) := goodIn_app (goodIn_of _ (by decide +kernel)) ggX12_readsClause_X12_number
set_option maxRecDepth 20000 in
theorem ggX12_readsClause_X12_ends : GoodIn wsX12_readsClause wsX12_ends := goodIn_r _ [35, 1, 15, 16, 17, 6, 18, 19, 20, 13, 14, 21, 22, 23, 24, 25, 26, 27, 28, 29, 30, 31, 3, 4, 5, 7, 8, 40, 41, 42, 43, 44, 45, 46, 47, 48, 49, 50, 51, 52, 53, 54, 55, 56, 57, 58, 59, 60, 61, 62, 63, 64] (by decide +kernel) (by decide +kernel)
set_option maxRecDepth 20000 in
theorem gX12_readsClause_X12_ends : GoodIn wsX12_readsClause (wsV RX12 111 RX12 yX12_ends wsX12_ends) := goodIn_app (goodIn_of _ (by decide +kernel)) ggX12_readsClause_X12_ends
set_option maxRecDepth 20000 in
theorem ggX12_readsClause_X12_readsHouse : GoodIn wsX12_readsClause wsX12_readsHouse := goodIn_r _ [39, 2, 14, 3, 4, 5, 6, 7, 8, 9, 10, 11, 12, 1, 13, 15, 16, 17, 18, 19, 20, 21, 22, 23, 24, 25, 26, 27, 28, 29, 30, 31, 32, 33, 34, 35, 40, 41, 42, 43, 44, 45, 46, 47, 48, 49, 50, 51, 52, 53, 54, 55, 56, 57, 58, 59, 60, 61, 62, 63, 64] (by decide +kernel) (by decide +kernel)
set_option maxRecDepth 20000 in
theorem gX12_readsClause_X12_readsHouse : GoodIn wsX12_readsClause (wsV RX12 115 RX12 yX12_readsHouse wsX12_readsHouse) := goodIn_app (goodIn_of _ (by decide +kernel)) ggX12_readsClause_X12_readsHouse
theorem dX12_readsClause_0 : decode cX12_readsClause 0 = .ok (.aload_n 0, 1) := by decide +kernel
theorem dX12_readsClause_1 : decode cX12_readsClause 1 = .ok (.getfield 84, 3) := by decide +kernel
theorem dX12_readsClause_4 : decode cX12_readsClause 4 = .ok (.bipush 116, 2) := by decide +kernel
theorem dX12_readsClause_6 : decode cX12_readsClause 6 = .ok (.if_icmp .ne 55, 3) := by decide +kernel
theorem dX12_readsClause_9 : decode cX12_readsClause 9 = .ok (.aload_n 0, 1) := by decide +kernel
theorem dX12_readsClause_10 : decode cX12_readsClause 10 = .ok (.getfield 13, 3) := by decide +kernel
theorem dX12_readsClause_13 : decode cX12_readsClause 13 = .ok (.iconst 0, 1) := by decide +kernel
theorem dX12_readsClause_14 : decode cX12_readsClause 14 = .ok (.iaload, 1) := by decide +kernel
theorem dX12_readsClause_15 : decode cX12_readsClause 15 = .ok (.ifCond .le 11, 3) := by decide +kernel
theorem dX12_readsClause_18 : decode cX12_readsClause 18 = .ok (.aload_n 0, 1) := by decide +kernel
theorem dX12_readsClause_19 : decode cX12_readsClause 19 = .ok (.iconst 3, 1) := by decide +kernel
theorem dX12_readsClause_20 : decode cX12_readsClause 20 = .ok (.invokevirtual 103, 3) := by decide +kernel
theorem dX12_readsClause_23 : decode cX12_readsClause 23 = .ok (.goto 37, 3) := by decide +kernel
theorem dX12_readsClause_26 : decode cX12_readsClause 26 = .ok (.aload_n 0, 1) := by decide +kernel
theorem dX12_readsClause_27 : decode cX12_readsClause 27 = .ok (.iconst 0, 1) := by decide +kernel
theorem dX12_readsClause_28 : decode cX12_readsClause 28 = .ok (.iconst 1, 1) := by decide +kernel
theorem dX12_readsClause_29 : decode cX12_readsClause 29 = .ok (.bipush 60, 2) := by decide +kernel
theorem dX12_readsClause_31 : decode cX12_readsClause 31 = .ok (.invokevirtual 107, 3) := by decide +kernel
theorem dX12_readsClause_34 : decode cX12_readsClause 34 = .ok (.ifCond .eq 25, 3) := by decide +kernel
theorem dX12_readsClause_37 : decode cX12_readsClause 37 = .ok (.aload_n 0, 1) := by decide +kernel
theorem dX12_readsClause_38 : decode cX12_readsClause 38 = .ok (.iconst 1, 1) := by decide +kernel
theorem dX12_readsClause_39 : decode cX12_readsClause 39 = .ok (.iconst 1, 1) := by decide +kernel
theorem dX12_readsClause_40 : decode cX12_readsClause 40 = .ok (.bipush 99, 2) := by decide +kernel
theorem dX12_readsClause_42 : decode cX12_readsClause 42 = .ok (.invokevirtual 107, 3) := by decide +kernel
theorem dX12_readsClause_45 : decode cX12_readsClause 45 = .ok (.ifCond .eq 14, 3) := by decide +kernel
theorem dX12_readsClause_48 : decode cX12_readsClause 48 = .ok (.aload_n 0, 1) := by decide +kernel
theorem dX12_readsClause_49 : decode cX12_readsClause 49 = .ok (.invokevirtual 111, 3) := by decide +kernel
theorem dX12_readsClause_52 : decode cX12_readsClause 52 = .ok (.ifCond .eq 7, 3) := by decide +kernel
theorem dX12_readsClause_55 : decode cX12_readsClause 55 = .ok (.iconst 1, 1) := by decide +kernel
theorem dX12_readsClause_56 : decode cX12_readsClause 56 = .ok (.goto 4, 3) := by decide +kernel
theorem dX12_readsClause_59 : decode cX12_readsClause 59 = .ok (.iconst 0, 1) := by decide +kernel
theorem dX12_readsClause_60 : decode cX12_readsClause 60 = .ok (.ireturn, 1) := by decide +kernel
theorem dX12_readsClause_61 : decode cX12_readsClause 61 = .ok (.aload_n 0, 1) := by decide +kernel
theorem dX12_readsClause_62 : decode cX12_readsClause 62 = .ok (.getfield 84, 3) := by decide +kernel
theorem dX12_readsClause_65 : decode cX12_readsClause 65 = .ok (.bipush 104, 2) := by decide +kernel
theorem dX12_readsClause_67 : decode cX12_readsClause 67 = .ok (.if_icmp .ne 19, 3) := by decide +kernel
theorem dX12_readsClause_70 : decode cX12_readsClause 70 = .ok (.aload_n 0, 1) := by decide +kernel
theorem dX12_readsClause_71 : decode cX12_readsClause 71 = .ok (.getfield 13, 3) := by decide +kernel
theorem dX12_readsClause_74 : decode cX12_readsClause 74 = .ok (.iconst 0, 1) := by decide +kernel
theorem dX12_readsClause_75 : decode cX12_readsClause 75 = .ok (.iaload, 1) := by decide +kernel
theorem dX12_readsClause_76 : decode cX12_readsClause 76 = .ok (.ifCond .le 10, 3) := by decide +kernel
theorem dX12_readsClause_79 : decode cX12_readsClause 79 = .ok (.aload_n 0, 1) := by decide +kernel
theorem dX12_readsClause_80 : decode cX12_readsClause 80 = .ok (.invokevirtual 115, 3) := by decide +kernel
theorem dX12_readsClause_83 : decode cX12_readsClause 83 = .ok (.goto 8, 3) := by decide +kernel
theorem dX12_readsClause_86 : decode cX12_readsClause 86 = .ok (.aload_n 0, 1) := by decide +kernel
theorem dX12_readsClause_87 : decode cX12_readsClause 87 = .ok (.iconst 1, 1) := by decide +kernel
theorem dX12_readsClause_88 : decode cX12_readsClause 88 = .ok (.invokevirtual 103, 3) := by decide +kernel
theorem dX12_readsClause_91 : decode cX12_readsClause 91 = .ok (.ireturn, 1) := by decide +kernel
set_option maxRecDepth 20000 in
theorem ggX12_town_X12_step : GoodIn wsX12_town wsX12_step := goodIn_r _ [13, 2, 6, 4, 14, 15, 16, 17, 18, 19, 20, 12, 21, 5, 22, 23, 24, 25, 58, 59, 60, 61, 62, 63, 64, 65, 66, 67, 68, 69, 70, 71, 72, 73, 74, 75, 76, 77, 78, 79, 80, 81, 82] (by decide +kernel) (by decide +kernel)
set_option maxRecDepth 20000 in
theorem gX12_town_X12_step : GoodIn wsX12_town (wsV RX12 100 RX12 yX12_step wsX12_step) := goodIn_app (goodIn_of _ (by decide +kernel)) ggX12_town_X12_step
set_option maxRecDepth 20000 in
theorem ggX12_town_X12_readsClause : GoodIn wsX12_town wsX12_readsClause := goodIn_r _ [29, 4, 1, 30, 31, 32, 12, 33, 7, 34, 35, 36, 37, 14, 15, 9, 10, 11, 13, 2, 6, 16, 17, 18, 19, 20, 21, 5, 22, 23, 24, 25, 38, 39, 40, 41, 42, 43, 44, 45, 58, 59, 60, 61, 62, 63, 64, 65, 66, 67, 68, 69, 70, 71, 72, 73, 74, 75, 76, 77, 78, 79, 80, 81, 82] (by decide +kernel) (by decide +kernel)
set_option maxRecDepth 20000 in
theorem gX12_town_X12_readsClause : GoodIn wsX12_town (wsV RX12 118 RX12 yX12_readsClause wsX12_readsClause) := goodIn_app (goodIn_of _ (by decide +kernel)) ggX12_town_X12_readsClause
set_option maxRecDepth 20000 in
theorem ggX12_town_X12_copies : GoodIn wsX12_town wsX12_copies := goodIn_r _ [48] (by decide +kernel) (by decide +kernel)
set_option maxRecDepth 20000 in
theorem gX12_town_X12_copies : GoodIn wsX12_town (va_wsS RX12 121 yX12_copies wsX12_copies) := goodIn_app (goodIn_of _ (by decide +kernel)) ggX12_town_X12_copies
set_option maxRecDepth 20000 in
theorem ggX12_town_X12_begins : GoodIn wsX12_town wsX12_begins := goodIn_r _ [52, 53, 54, 55, 56, 57, 58, 59, 60, 61, 62, 63, 64, 65, 66, 67, 68, 69, 70, 71, 72, 73, 74, 75, 76, 77, 78, 79, 80, 81, 82] (by decide +kernel) (by decide +kernel)
set_option maxRecDepth 20000 in
theorem gX12_town_X12_begins : GoodIn wsX12_town (wsV RX12 125 RX12 yX12_begins wsX12_begins) := goodIn_app (goodIn_of _ (by decide +kernel)) ggX12_town_X12_begins
theorem dX12_town_0 : decode cX12_town 0 = .ok (.iconst 0, 1) := by decide +kernel
theorem dX12_town_1 : decode cX12_town 1 = .ok (.istore_n 1, 1) := by decide +kernel
theorem dX12_town_2 : decode cX12_town 2 = .ok (.iload_n 1, 1) := by decide +kernel
theorem dX12_town_3 : decode cX12_town 3 = .ok (.bipush 27, 2) := by decide +kernel
theorem dX12_town_5 : decode cX12_town 5 = .ok (.if_icmp .ge 16, 3) := by decide +kernel
theorem dX12_town_8 : decode cX12_town 8 = .ok (.aload_n 0, 1) := by decide +kernel
theorem dX12_town_9 : decode cX12_town 9 = .ok (.getfield 13, 3) := by decide +kernel
theorem dX12_town_12 : decode cX12_town 12 = .ok (.iload_n 1, 1) := by decide +kernel
theorem dX12_town_13 : decode cX12_town 13 = .ok (.iconst 0, 1) := by decide +kernel
theorem dX12_town_14 : decode cX12_town 14 = .ok (.iastore, 1) := by decide +kernel
theorem dX12_town_15 : decode cX12_town 15 = .ok (.iinc 1 1, 3) := by decide +kernel
theorem dX12_town_18 : decode cX12_town 18 = .ok (.goto (-16), 3) := by decide +kernel
theorem dX12_town_21 : decode cX12_town 21 = .ok (.aload_n 0, 1) := by decide +kernel
theorem dX12_town_22 : decode cX12_town 22 = .ok (.iconst 0, 1) := by decide +kernel
theorem dX12_town_23 : decode cX12_town 23 = .ok (.putfield 74, 3) := by decide +kernel
theorem dX12_town_26 : decode cX12_town 26 = .ok (.aload_n 0, 1) := by decide +kernel
theorem dX12_town_27 : decode cX12_town 27 = .ok (.iconst (-1), 1) := by decide +kernel
theorem dX12_town_28 : decode cX12_town 28 = .ok (.putfield 35, 3) := by decide +kernel
theorem dX12_town_31 : decode cX12_town 31 = .ok (.iconst 1, 1) := by decide +kernel
theorem dX12_town_32 : decode cX12_town 32 = .ok (.istore_n 1, 1) := by decide +kernel
theorem dX12_town_33 : decode cX12_town 33 = .ok (.aload_n 0, 1) := by decide +kernel
theorem dX12_town_34 : decode cX12_town 34 = .ok (.invokevirtual 100, 3) := by decide +kernel
theorem dX12_town_37 : decode cX12_town 37 = .ok (.aload_n 0, 1) := by decide +kernel
theorem dX12_town_38 : decode cX12_town 38 = .ok (.getfield 84, 3) := by decide +kernel
theorem dX12_town_41 : decode cX12_town 41 = .ok (.ifCond .lt 23, 3) := by decide +kernel
theorem dX12_town_44 : decode cX12_town 44 = .ok (.iload_n 1, 1) := by decide +kernel
theorem dX12_town_45 : decode cX12_town 45 = .ok (.ifCond .eq 19, 3) := by decide +kernel
theorem dX12_town_48 : decode cX12_town 48 = .ok (.aload_n 0, 1) := by decide +kernel
theorem dX12_town_49 : decode cX12_town 49 = .ok (.invokevirtual 118, 3) := by decide +kernel
theorem dX12_town_52 : decode cX12_town 52 = .ok (.istore_n 1, 1) := by decide +kernel
theorem dX12_town_53 : decode cX12_town 53 = .ok (.iload_n 1, 1) := by decide +kernel
theorem dX12_town_54 : decode cX12_town 54 = .ok (.ifCond .eq (-17), 3) := by decide +kernel
theorem dX12_town_57 : decode cX12_town 57 = .ok (.aload_n 0, 1) := by decide +kernel
theorem dX12_town_58 : decode cX12_town 58 = .ok (.invokevirtual 100, 3) := by decide +kernel
theorem dX12_town_61 : decode cX12_town 61 = .ok (.goto (-24), 3) := by decide +kernel
theorem dX12_town_64 : decode cX12_town 64 = .ok (.aload_n 0, 1) := by decide +kernel
theorem dX12_town_65 : decode cX12_town 65 = .ok (.iconst 0, 1) := by decide +kernel
theorem dX12_town_66 : decode cX12_town 66 = .ok (.putfield 70, 3) := by decide +kernel
theorem dX12_town_69 : decode cX12_town 69 = .ok (.iload_n 1, 1) := by decide +kernel
theorem dX12_town_70 : decode cX12_town 70 = .ok (.ifCond .ne 19, 3) := by decide +kernel
theorem dX12_town_73 : decode cX12_town 73 = .ok (.aload_n 0, 1) := by decide +kernel
theorem dX12_town_74 : decode cX12_town 74 = .ok (.aload_n 0, 1) := by decide +kernel
theorem dX12_town_75 : decode cX12_town 75 = .ok (.getfield 81, 3) := by decide +kernel
theorem dX12_town_78 : decode cX12_town 78 = .ok (.putfield 35, 3) := by decide +kernel
theorem dX12_town_81 : decode cX12_town 81 = .ok (.bipush (-10), 2) := by decide +kernel
theorem dX12_town_83 : decode cX12_town 83 = .ok (.aload_n 0, 1) := by decide +kernel
theorem dX12_town_84 : decode cX12_town 84 = .ok (.getfield 97, 3) := by decide +kernel
theorem dX12_town_87 : decode cX12_town 87 = .ok (.isub, 1) := by decide +kernel
theorem dX12_town_88 : decode cX12_town 88 = .ok (.ireturn, 1) := by decide +kernel
theorem dX12_town_89 : decode cX12_town 89 = .ok (.aload_n 0, 1) := by decide +kernel
theorem dX12_town_90 : decode cX12_town 90 = .ok (.getfield 13, 3) := by decide +kernel
theorem dX12_town_93 : decode cX12_town 93 = .ok (.iconst 0, 1) := by decide +kernel
theorem dX12_town_94 : decode cX12_town 94 = .ok (.aload_n 0, 1) := by decide +kernel
theorem dX12_town_95 : decode cX12_town 95 = .ok (.getfield 7, 3) := by decide +kernel
theorem dX12_town_98 : decode cX12_town 98 = .ok (.iconst 0, 1) := by decide +kernel
theorem dX12_town_99 : decode cX12_town 99 = .ok (.bipush 27, 2) := by decide +kernel
theorem dX12_town_101 : decode cX12_town 101 = .ok (.invokestatic 121, 3) := by decide +kernel
theorem dX12_town_104 : decode cX12_town 104 = .ok (.aload_n 0, 1) := by decide +kernel
theorem dX12_town_105 : decode cX12_town 105 = .ok (.invokevirtual 125, 3) := by decide +kernel
theorem dX12_town_108 : decode cX12_town 108 = .ok (.aload_n 0, 1) := by decide +kernel
theorem dX12_town_109 : decode cX12_town 109 = .ok (.getfield 7, 3) := by decide +kernel
theorem dX12_town_112 : decode cX12_town 112 = .ok (.iconst 2, 1) := by decide +kernel
theorem dX12_town_113 : decode cX12_town 113 = .ok (.iaload, 1) := by decide +kernel
theorem dX12_town_114 : decode cX12_town 114 = .ok (.ireturn, 1) := by decide +kernel
theorem dX12_fault_0 : decode cX12_fault 0 = .ok (.aload_n 0, 1) := by decide +kernel
theorem dX12_fault_1 : decode cX12_fault 1 = .ok (.getfield 35, 3) := by decide +kernel
theorem dX12_fault_4 : decode cX12_fault 4 = .ok (.ireturn, 1) := by decide +kernel
set_option maxRecDepth 20000 in
theorem ggX12_isHouse_X12_in : GoodIn wsX12_isHouse wsX12_in := goodIn_r _ [5] (by decide +kernel) (by decide +kernel)
set_option maxRecDepth 20000 in
theorem gX12_isHouse_X12_in : GoodIn wsX12_isHouse (va_wsS RX12 65 yX12_in wsX12_in) := goodIn_app (goodIn_of _ (by decide +kernel)) ggX12_isHouse_X12_in
theorem dX12_isHouse_0 : decode cX12_isHouse 0 = .ok (.iload_n 1, 1) := by decide +kernel
theorem dX12_isHouse_1 : decode cX12_isHouse 1 = .ok (.i2l, 1) := by decide +kernel
theorem dX12_isHouse_2 : decode cX12_isHouse 2 = .ok (.lconst 0, 1) := by decide +kernel
theorem dX12_isHouse_3 : decode cX12_isHouse 3 = .ok (.aload_n 0, 1) := by decide +kernel
theorem dX12_isHouse_4 : decode cX12_isHouse 4 = .ok (.getfield 7, 3) := by decide +kernel
theorem dX12_isHouse_7 : decode cX12_isHouse 7 = .ok (.iconst 2, 1) := by decide +kernel
theorem dX12_isHouse_8 : decode cX12_isHouse 8 = .ok (.iaload, 1) := by decide +kernel
theorem dX12_isHouse_9 : decode cX12_isHouse 9 = .ok (.iconst 1, 1) := by decide +kernel
theorem dX12_isHouse_10 : decode cX12_isHouse 10 = .ok (.isub, 1) := by decide +kernel
theorem dX12_isHouse_11 : decode cX12_isHouse 11 = .ok (.i2l, 1) := by decide +kernel
theorem dX12_isHouse_12 : decode cX12_isHouse 12 = .ok (.invokestatic 65, 3) := by decide +kernel
theorem dX12_isHouse_15 : decode cX12_isHouse 15 = .ok (.ireturn, 1) := by decide +kernel
theorem dX12_isLent_0 : decode cX12_isLent 0 = .ok (.aload_n 1, 1) := by decide +kernel
theorem dX12_isLent_1 : decode cX12_isLent 1 = .ok (.bipush 16, 2) := by decide +kernel
theorem dX12_isLent_3 : decode cX12_isLent 3 = .ok (.iaload, 1) := by decide +kernel
theorem dX12_isLent_4 : decode cX12_isLent 4 = .ok (.aload_n 0, 1) := by decide +kernel
theorem dX12_isLent_5 : decode cX12_isLent 5 = .ok (.getfield 7, 3) := by decide +kernel
theorem dX12_isLent_8 : decode cX12_isLent 8 = .ok (.iconst 0, 1) := by decide +kernel
theorem dX12_isLent_9 : decode cX12_isLent 9 = .ok (.iaload, 1) := by decide +kernel
theorem dX12_isLent_10 : decode cX12_isLent 10 = .ok (.if_icmp .ge 7, 3) := by decide +kernel
theorem dX12_isLent_13 : decode cX12_isLent 13 = .ok (.iconst 1, 1) := by decide +kernel
theorem dX12_isLent_14 : decode cX12_isLent 14 = .ok (.goto 4, 3) := by decide +kernel
theorem dX12_isLent_17 : decode cX12_isLent 17 = .ok (.iconst 0, 1) := by decide +kernel
theorem dX12_isLent_18 : decode cX12_isLent 18 = .ok (.ireturn, 1) := by decide +kernel
set_option maxRecDepth 20000 in
theorem ggX12_spillsAt_X12_lesser : GoodIn wsX12_spillsAt wsX12_lesser := goodIn_r _ [6] (by decide +kernel) (by decide +kernel)
set_option maxRecDepth 20000 in
theorem gX12_spillsAt_X12_lesser : GoodIn wsX12_spillsAt (va_wsS RX12 129 yX12_lesser wsX12_lesser) := goodIn_app (goodIn_of _ (by decide +kernel)) ggX12_spillsAt_X12_lesser
theorem dX12_spillsAt_0 : decode cX12_spillsAt 0 = .ok (.aload_n 1, 1) := by decide +kernel
theorem dX12_spillsAt_1 : decode cX12_spillsAt 1 = .ok (.iconst 0, 1) := by decide +kernel
theorem dX12_spillsAt_2 : decode cX12_spillsAt 2 = .ok (.iload_n 2, 1) := by decide +kernel
theorem dX12_spillsAt_3 : decode cX12_spillsAt 3 = .ok (.iadd, 1) := by decide +kernel
theorem dX12_spillsAt_4 : decode cX12_spillsAt 4 = .ok (.iaload, 1) := by decide +kernel
theorem dX12_spillsAt_5 : decode cX12_spillsAt 5 = .ok (.aload_n 0, 1) := by decide +kernel
theorem dX12_spillsAt_6 : decode cX12_spillsAt 6 = .ok (.getfield 7, 3) := by decide +kernel
theorem dX12_spillsAt_9 : decode cX12_spillsAt 9 = .ok (.iconst 3, 1) := by decide +kernel
theorem dX12_spillsAt_10 : decode cX12_spillsAt 10 = .ok (.iload_n 2, 1) := by decide +kernel
theorem dX12_spillsAt_11 : decode cX12_spillsAt 11 = .ok (.iadd, 1) := by decide +kernel
theorem dX12_spillsAt_12 : decode cX12_spillsAt 12 = .ok (.iaload, 1) := by decide +kernel
theorem dX12_spillsAt_13 : decode cX12_spillsAt 13 = .ok (.isub, 1) := by decide +kernel
theorem dX12_spillsAt_14 : decode cX12_spillsAt 14 = .ok (.istore_n 3, 1) := by decide +kernel
theorem dX12_spillsAt_15 : decode cX12_spillsAt 15 = .ok (.iload_n 3, 1) := by decide +kernel
theorem dX12_spillsAt_16 : decode cX12_spillsAt 16 = .ok (.ifCond .le 27, 3) := by decide +kernel
theorem dX12_spillsAt_19 : decode cX12_spillsAt 19 = .ok (.aload_n 1, 1) := by decide +kernel
theorem dX12_spillsAt_20 : decode cX12_spillsAt 20 = .ok (.iconst 0, 1) := by decide +kernel
theorem dX12_spillsAt_21 : decode cX12_spillsAt 21 = .ok (.iload_n 2, 1) := by decide +kernel
theorem dX12_spillsAt_22 : decode cX12_spillsAt 22 = .ok (.iadd, 1) := by decide +kernel
theorem dX12_spillsAt_23 : decode cX12_spillsAt 23 = .ok (.dup2, 1) := by decide +kernel
theorem dX12_spillsAt_24 : decode cX12_spillsAt 24 = .ok (.iaload, 1) := by decide +kernel
theorem dX12_spillsAt_25 : decode cX12_spillsAt 25 = .ok (.iload_n 3, 1) := by decide +kernel
theorem dX12_spillsAt_26 : decode cX12_spillsAt 26 = .ok (.isub, 1) := by decide +kernel
theorem dX12_spillsAt_27 : decode cX12_spillsAt 27 = .ok (.iastore, 1) := by decide +kernel
theorem dX12_spillsAt_28 : decode cX12_spillsAt 28 = .ok (.aload_n 1, 1) := by decide +kernel
theorem dX12_spillsAt_29 : decode cX12_spillsAt 29 = .ok (.bipush 17, 2) := by decide +kernel
theorem dX12_spillsAt_31 : decode cX12_spillsAt 31 = .ok (.aload_n 1, 1) := by decide +kernel
theorem dX12_spillsAt_32 : decode cX12_spillsAt 32 = .ok (.bipush 17, 2) := by decide +kernel
theorem dX12_spillsAt_34 : decode cX12_spillsAt 34 = .ok (.iaload, 1) := by decide +kernel
theorem dX12_spillsAt_35 : decode cX12_spillsAt 35 = .ok (.iload_n 3, 1) := by decide +kernel
theorem dX12_spillsAt_36 : decode cX12_spillsAt 36 = .ok (.iadd, 1) := by decide +kernel
theorem dX12_spillsAt_37 : decode cX12_spillsAt 37 = .ok (.ldc 128, 2) := by decide +kernel
theorem dX12_spillsAt_39 : decode cX12_spillsAt 39 = .ok (.invokestatic 129, 3) := by decide +kernel
theorem dX12_spillsAt_42 : decode cX12_spillsAt 42 = .ok (.iastore, 1) := by decide +kernel
theorem dX12_spillsAt_43 : decode cX12_spillsAt 43 = .ok (.return_, 1) := by decide +kernel
set_option maxRecDepth 20000 in
theorem ggX12_dayGoes_X12_isLent : GoodIn wsX12_dayGoes wsX12_isLent := goodIn_r _ [7, 1, 15, 16, 17, 18, 19, 20, 21, 22, 23, 24, 25, 26, 27, 28, 29, 30, 31, 32, 33, 34, 35, 36, 37, 38, 39] (by decide +kernel) (by decide +kernel)
set_option maxRecDepth 20000 in
theorem gX12_dayGoes_X12_isLent : GoodIn wsX12_dayGoes (wsV RX12 133 RX12 yX12_isLent wsX12_isLent) := goodIn_app (goodIn_of _ (by decide +kernel)) ggX12_dayGoes_X12_isLent
set_option maxRecDepth 20000 in
theorem ggX12_dayGoes_X12_spillsAt : GoodIn wsX12_dayGoes wsX12_spillsAt := goodIn_r _ [11, 1, 2, 12, 13, 6, 14, 15, 16, 17, 18, 19, 20, 21, 22, 23, 24, 25, 26, 27, 28, 29, 30, 31, 32, 33, 34, 35, 36, 37, 38, 39] (by decide +kernel) (by decide +kernel)
set_option maxRecDepth 20000 in
theorem gX12_dayGoes_X12_spillsAt : GoodIn wsX12_dayGoes (wsV RX12 137 RX12 yX12_spillsAt wsX12_spillsAt) := goodIn_app (goodIn_of _ (by decide +kernel)) ggX12_dayGoes_X12_spillsAt
set_option maxRecDepth 20000 in
theorem ggX12_dayGoes_X12_lesser : GoodIn wsX12_dayGoes wsX12_lesser := goodIn_r _ [14] (by decide +kernel) (by decide +kernel)
set_option maxRecDepth 20000 in
theorem gX12_dayGoes_X12_lesser : GoodIn wsX12_dayGoes (va_wsS RX12 129 yX12_lesser wsX12_lesser) := goodIn_app (goodIn_of _ (by decide +kernel)) ggX12_dayGoes_X12_lesser
theorem dX12_dayGoes_0 : decode cX12_dayGoes 0 = .ok (.iconst 0, 1) := by decide +kernel
theorem dX12_dayGoes_1 : decode cX12_dayGoes 1 = .ok (.istore 4, 2) := by decide +kernel
theorem dX12_dayGoes_3 : decode cX12_dayGoes 3 = .ok (.iload 4, 2) := by decide +kernel
theorem dX12_dayGoes_5 : decode cX12_dayGoes 5 = .ok (.aload_n 0, 1) := by decide +kernel
theorem dX12_dayGoes_6 : decode cX12_dayGoes 6 = .ok (.getfield 7, 3) := by decide +kernel
theorem dX12_dayGoes_9 : decode cX12_dayGoes 9 = .ok (.iconst 2, 1) := by decide +kernel
theorem dX12_dayGoes_10 : decode cX12_dayGoes 10 = .ok (.iaload, 1) := by decide +kernel
theorem dX12_dayGoes_11 : decode cX12_dayGoes 11 = .ok (.if_icmp .ge 102, 3) := by decide +kernel
theorem dX12_dayGoes_14 : decode cX12_dayGoes 14 = .ok (.aload_n 0, 1) := by decide +kernel
theorem dX12_dayGoes_15 : decode cX12_dayGoes 15 = .ok (.getfield 7, 3) := by decide +kernel
theorem dX12_dayGoes_18 : decode cX12_dayGoes 18 = .ok (.bipush 11, 2) := by decide +kernel
theorem dX12_dayGoes_20 : decode cX12_dayGoes 20 = .ok (.iload 4, 2) := by decide +kernel
theorem dX12_dayGoes_22 : decode cX12_dayGoes 22 = .ok (.iadd, 1) := by decide +kernel
theorem dX12_dayGoes_23 : decode cX12_dayGoes 23 = .ok (.iaload, 1) := by decide +kernel
theorem dX12_dayGoes_24 : decode cX12_dayGoes 24 = .ok (.iload 4, 2) := by decide +kernel
theorem dX12_dayGoes_26 : decode cX12_dayGoes 26 = .ok (.iload_n 2, 1) := by decide +kernel
theorem dX12_dayGoes_27 : decode cX12_dayGoes 27 = .ok (.if_icmp .ne 7, 3) := by decide +kernel
theorem dX12_dayGoes_30 : decode cX12_dayGoes 30 = .ok (.iload_n 3, 1) := by decide +kernel
theorem dX12_dayGoes_31 : decode cX12_dayGoes 31 = .ok (.goto 4, 3) := by decide +kernel
theorem dX12_dayGoes_34 : decode cX12_dayGoes 34 = .ok (.iconst 0, 1) := by decide +kernel
theorem dX12_dayGoes_35 : decode cX12_dayGoes 35 = .ok (.iadd, 1) := by decide +kernel
theorem dX12_dayGoes_36 : decode cX12_dayGoes 36 = .ok (.istore 5, 2) := by decide +kernel
theorem dX12_dayGoes_38 : decode cX12_dayGoes 38 = .ok (.aload_n 1, 1) := by decide +kernel
theorem dX12_dayGoes_39 : decode cX12_dayGoes 39 = .ok (.bipush 8, 2) := by decide +kernel
theorem dX12_dayGoes_41 : decode cX12_dayGoes 41 = .ok (.iload 4, 2) := by decide +kernel
theorem dX12_dayGoes_43 : decode cX12_dayGoes 43 = .ok (.iadd, 1) := by decide +kernel
theorem dX12_dayGoes_44 : decode cX12_dayGoes 44 = .ok (.iaload, 1) := by decide +kernel
theorem dX12_dayGoes_45 : decode cX12_dayGoes 45 = .ok (.ifCond .le 17, 3) := by decide +kernel
theorem dX12_dayGoes_48 : decode cX12_dayGoes 48 = .ok (.aload_n 1, 1) := by decide +kernel
theorem dX12_dayGoes_49 : decode cX12_dayGoes 49 = .ok (.bipush 8, 2) := by decide +kernel
theorem dX12_dayGoes_51 : decode cX12_dayGoes 51 = .ok (.iload 4, 2) := by decide +kernel
theorem dX12_dayGoes_53 : decode cX12_dayGoes 53 = .ok (.iadd, 1) := by decide +kernel
theorem dX12_dayGoes_54 : decode cX12_dayGoes 54 = .ok (.dup2, 1) := by decide +kernel
theorem dX12_dayGoes_55 : decode cX12_dayGoes 55 = .ok (.iaload, 1) := by decide +kernel
theorem dX12_dayGoes_56 : decode cX12_dayGoes 56 = .ok (.iconst 1, 1) := by decide +kernel
theorem dX12_dayGoes_57 : decode cX12_dayGoes 57 = .ok (.isub, 1) := by decide +kernel
theorem dX12_dayGoes_58 : decode cX12_dayGoes 58 = .ok (.iastore, 1) := by decide +kernel
theorem dX12_dayGoes_59 : decode cX12_dayGoes 59 = .ok (.goto 48, 3) := by decide +kernel
theorem dX12_dayGoes_62 : decode cX12_dayGoes 62 = .ok (.aload_n 0, 1) := by decide +kernel
theorem dX12_dayGoes_63 : decode cX12_dayGoes 63 = .ok (.aload_n 1, 1) := by decide +kernel
theorem dX12_dayGoes_64 : decode cX12_dayGoes 64 = .ok (.invokevirtual 133, 3) := by decide +kernel
theorem dX12_dayGoes_67 : decode cX12_dayGoes 67 = .ok (.ifCond .eq 24, 3) := by decide +kernel
theorem dX12_dayGoes_70 : decode cX12_dayGoes 70 = .ok (.aload_n 1, 1) := by decide +kernel
theorem dX12_dayGoes_71 : decode cX12_dayGoes 71 = .ok (.iconst 0, 1) := by decide +kernel
theorem dX12_dayGoes_72 : decode cX12_dayGoes 72 = .ok (.iload 4, 2) := by decide +kernel
theorem dX12_dayGoes_74 : decode cX12_dayGoes 74 = .ok (.iadd, 1) := by decide +kernel
theorem dX12_dayGoes_75 : decode cX12_dayGoes 75 = .ok (.dup2, 1) := by decide +kernel
theorem dX12_dayGoes_76 : decode cX12_dayGoes 76 = .ok (.iaload, 1) := by decide +kernel
theorem dX12_dayGoes_77 : decode cX12_dayGoes 77 = .ok (.iload 5, 2) := by decide +kernel
theorem dX12_dayGoes_79 : decode cX12_dayGoes 79 = .ok (.iadd, 1) := by decide +kernel
theorem dX12_dayGoes_80 : decode cX12_dayGoes 80 = .ok (.iastore, 1) := by decide +kernel
theorem dX12_dayGoes_81 : decode cX12_dayGoes 81 = .ok (.aload_n 0, 1) := by decide +kernel
theorem dX12_dayGoes_82 : decode cX12_dayGoes 82 = .ok (.aload_n 1, 1) := by decide +kernel
theorem dX12_dayGoes_83 : decode cX12_dayGoes 83 = .ok (.iload 4, 2) := by decide +kernel
theorem dX12_dayGoes_85 : decode cX12_dayGoes 85 = .ok (.invokevirtual 137, 3) := by decide +kernel
theorem dX12_dayGoes_88 : decode cX12_dayGoes 88 = .ok (.goto 19, 3) := by decide +kernel
theorem dX12_dayGoes_91 : decode cX12_dayGoes 91 = .ok (.aload_n 1, 1) := by decide +kernel
theorem dX12_dayGoes_92 : decode cX12_dayGoes 92 = .ok (.bipush 18, 2) := by decide +kernel
theorem dX12_dayGoes_94 : decode cX12_dayGoes 94 = .ok (.aload_n 1, 1) := by decide +kernel
theorem dX12_dayGoes_95 : decode cX12_dayGoes 95 = .ok (.bipush 18, 2) := by decide +kernel
theorem dX12_dayGoes_97 : decode cX12_dayGoes 97 = .ok (.iaload, 1) := by decide +kernel
theorem dX12_dayGoes_98 : decode cX12_dayGoes 98 = .ok (.iload 5, 2) := by decide +kernel
theorem dX12_dayGoes_100 : decode cX12_dayGoes 100 = .ok (.iadd, 1) := by decide +kernel
theorem dX12_dayGoes_101 : decode cX12_dayGoes 101 = .ok (.ldc 128, 2) := by decide +kernel
theorem dX12_dayGoes_103 : decode cX12_dayGoes 103 = .ok (.invokestatic 129, 3) := by decide +kernel
theorem dX12_dayGoes_106 : decode cX12_dayGoes 106 = .ok (.iastore, 1) := by decide +kernel
theorem dX12_dayGoes_107 : decode cX12_dayGoes 107 = .ok (.iinc 4 1, 3) := by decide +kernel
theorem dX12_dayGoes_110 : decode cX12_dayGoes 110 = .ok (.goto (-107), 3) := by decide +kernel
theorem dX12_dayGoes_113 : decode cX12_dayGoes 113 = .ok (.aload_n 1, 1) := by decide +kernel
theorem dX12_dayGoes_114 : decode cX12_dayGoes 114 = .ok (.bipush 16, 2) := by decide +kernel
theorem dX12_dayGoes_116 : decode cX12_dayGoes 116 = .ok (.dup2, 1) := by decide +kernel
theorem dX12_dayGoes_117 : decode cX12_dayGoes 117 = .ok (.iaload, 1) := by decide +kernel
theorem dX12_dayGoes_118 : decode cX12_dayGoes 118 = .ok (.iconst 1, 1) := by decide +kernel
theorem dX12_dayGoes_119 : decode cX12_dayGoes 119 = .ok (.iadd, 1) := by decide +kernel
theorem dX12_dayGoes_120 : decode cX12_dayGoes 120 = .ok (.iastore, 1) := by decide +kernel
theorem dX12_dayGoes_121 : decode cX12_dayGoes 121 = .ok (.return_, 1) := by decide +kernel
set_option maxRecDepth 20000 in
theorem ggX12_hourGoes_X12_lesser : GoodIn wsX12_hourGoes wsX12_lesser := goodIn_r _ [7] (by decide +kernel) (by decide +kernel)
set_option maxRecDepth 20000 in
theorem gX12_hourGoes_X12_lesser : GoodIn wsX12_hourGoes (va_wsS RX12 129 yX12_lesser wsX12_lesser) := goodIn_app (goodIn_of _ (by decide +kernel)) ggX12_hourGoes_X12_lesser
set_option maxRecDepth 20000 in
theorem ggX12_hourGoes_X12_spillsAt : GoodIn wsX12_hourGoes wsX12_spillsAt := goodIn_r _ [11, 1, 3, 4, 5, 6, 7, 12, 13, 14, 15, 16, 17, 18, 19, 20, 21, 22, 23, 24, 25, 26, 27, 28, 29, 30, 31, 32, 33, 34, 35, 36] (by decide +kernel) (by decide +kernel)
set_option maxRecDepth 20000 in
theorem gX12_hourGoes_X12_spillsAt : GoodIn wsX12_hourGoes (wsV RX12 137 RX12 yX12_spillsAt wsX12_spillsAt) := goodIn_app (goodIn_of _ (by decide +kernel)) ggX12_hourGoes_X12_spillsAt
theorem dX12_hourGoes_0 : decode cX12_hourGoes 0 = .ok (.iconst 0, 1) := by decide +kernel
theorem dX12_hourGoes_1 : decode cX12_hourGoes 1 = .ok (.istore_n 2, 1) := by decide +kernel
theorem dX12_hourGoes_2 : decode cX12_hourGoes 2 = .ok (.iload_n 2, 1) := by decide +kernel
theorem dX12_hourGoes_3 : decode cX12_hourGoes 3 = .ok (.aload_n 0, 1) := by decide +kernel
theorem dX12_hourGoes_4 : decode cX12_hourGoes 4 = .ok (.getfield 7, 3) := by decide +kernel
theorem dX12_hourGoes_7 : decode cX12_hourGoes 7 = .ok (.iconst 2, 1) := by decide +kernel
theorem dX12_hourGoes_8 : decode cX12_hourGoes 8 = .ok (.iaload, 1) := by decide +kernel
theorem dX12_hourGoes_9 : decode cX12_hourGoes 9 = .ok (.if_icmp .ge 29, 3) := by decide +kernel
theorem dX12_hourGoes_12 : decode cX12_hourGoes 12 = .ok (.aload_n 0, 1) := by decide +kernel
theorem dX12_hourGoes_13 : decode cX12_hourGoes 13 = .ok (.getfield 45, 3) := by decide +kernel
theorem dX12_hourGoes_16 : decode cX12_hourGoes 16 = .ok (.iload_n 2, 1) := by decide +kernel
theorem dX12_hourGoes_17 : decode cX12_hourGoes 17 = .ok (.aload_n 1, 1) := by decide +kernel
theorem dX12_hourGoes_18 : decode cX12_hourGoes 18 = .ok (.iconst 0, 1) := by decide +kernel
theorem dX12_hourGoes_19 : decode cX12_hourGoes 19 = .ok (.iload_n 2, 1) := by decide +kernel
theorem dX12_hourGoes_20 : decode cX12_hourGoes 20 = .ok (.iadd, 1) := by decide +kernel
theorem dX12_hourGoes_21 : decode cX12_hourGoes 21 = .ok (.iaload, 1) := by decide +kernel
theorem dX12_hourGoes_22 : decode cX12_hourGoes 22 = .ok (.aload_n 0, 1) := by decide +kernel
theorem dX12_hourGoes_23 : decode cX12_hourGoes 23 = .ok (.getfield 7, 3) := by decide +kernel
theorem dX12_hourGoes_26 : decode cX12_hourGoes 26 = .ok (.iconst 1, 1) := by decide +kernel
theorem dX12_hourGoes_27 : decode cX12_hourGoes 27 = .ok (.iaload, 1) := by decide +kernel
theorem dX12_hourGoes_28 : decode cX12_hourGoes 28 = .ok (.invokestatic 129, 3) := by decide +kernel
theorem dX12_hourGoes_31 : decode cX12_hourGoes 31 = .ok (.iastore, 1) := by decide +kernel
theorem dX12_hourGoes_32 : decode cX12_hourGoes 32 = .ok (.iinc 2 1, 3) := by decide +kernel
theorem dX12_hourGoes_35 : decode cX12_hourGoes 35 = .ok (.goto (-33), 3) := by decide +kernel
theorem dX12_hourGoes_38 : decode cX12_hourGoes 38 = .ok (.iconst 0, 1) := by decide +kernel
theorem dX12_hourGoes_39 : decode cX12_hourGoes 39 = .ok (.istore_n 2, 1) := by decide +kernel
theorem dX12_hourGoes_40 : decode cX12_hourGoes 40 = .ok (.iload_n 2, 1) := by decide +kernel
theorem dX12_hourGoes_41 : decode cX12_hourGoes 41 = .ok (.aload_n 0, 1) := by decide +kernel
theorem dX12_hourGoes_42 : decode cX12_hourGoes 42 = .ok (.getfield 7, 3) := by decide +kernel
theorem dX12_hourGoes_45 : decode cX12_hourGoes 45 = .ok (.iconst 2, 1) := by decide +kernel
theorem dX12_hourGoes_46 : decode cX12_hourGoes 46 = .ok (.iaload, 1) := by decide +kernel
theorem dX12_hourGoes_47 : decode cX12_hourGoes 47 = .ok (.if_icmp .ge 75, 3) := by decide +kernel
theorem dX12_hourGoes_50 : decode cX12_hourGoes 50 = .ok (.aload_n 0, 1) := by decide +kernel
theorem dX12_hourGoes_51 : decode cX12_hourGoes 51 = .ok (.getfield 7, 3) := by decide +kernel
theorem dX12_hourGoes_54 : decode cX12_hourGoes 54 = .ok (.bipush 19, 2) := by decide +kernel
theorem dX12_hourGoes_56 : decode cX12_hourGoes 56 = .ok (.iload_n 2, 1) := by decide +kernel
theorem dX12_hourGoes_57 : decode cX12_hourGoes 57 = .ok (.iadd, 1) := by decide +kernel
theorem dX12_hourGoes_58 : decode cX12_hourGoes 58 = .ok (.iaload, 1) := by decide +kernel
theorem dX12_hourGoes_59 : decode cX12_hourGoes 59 = .ok (.istore_n 3, 1) := by decide +kernel
theorem dX12_hourGoes_60 : decode cX12_hourGoes 60 = .ok (.aload_n 1, 1) := by decide +kernel
theorem dX12_hourGoes_61 : decode cX12_hourGoes 61 = .ok (.iconst 0, 1) := by decide +kernel
theorem dX12_hourGoes_62 : decode cX12_hourGoes 62 = .ok (.iload_n 2, 1) := by decide +kernel
theorem dX12_hourGoes_63 : decode cX12_hourGoes 63 = .ok (.iadd, 1) := by decide +kernel
theorem dX12_hourGoes_64 : decode cX12_hourGoes 64 = .ok (.dup2, 1) := by decide +kernel
theorem dX12_hourGoes_65 : decode cX12_hourGoes 65 = .ok (.iaload, 1) := by decide +kernel
theorem dX12_hourGoes_66 : decode cX12_hourGoes 66 = .ok (.aload_n 0, 1) := by decide +kernel
theorem dX12_hourGoes_67 : decode cX12_hourGoes 67 = .ok (.getfield 45, 3) := by decide +kernel
theorem dX12_hourGoes_70 : decode cX12_hourGoes 70 = .ok (.iload_n 2, 1) := by decide +kernel
theorem dX12_hourGoes_71 : decode cX12_hourGoes 71 = .ok (.iaload, 1) := by decide +kernel
theorem dX12_hourGoes_72 : decode cX12_hourGoes 72 = .ok (.isub, 1) := by decide +kernel
theorem dX12_hourGoes_73 : decode cX12_hourGoes 73 = .ok (.iastore, 1) := by decide +kernel
theorem dX12_hourGoes_74 : decode cX12_hourGoes 74 = .ok (.iload_n 3, 1) := by decide +kernel
theorem dX12_hourGoes_75 : decode cX12_hourGoes 75 = .ok (.iconst (-1), 1) := by decide +kernel
theorem dX12_hourGoes_76 : decode cX12_hourGoes 76 = .ok (.if_icmp .ne 26, 3) := by decide +kernel
theorem dX12_hourGoes_79 : decode cX12_hourGoes 79 = .ok (.aload_n 1, 1) := by decide +kernel
theorem dX12_hourGoes_80 : decode cX12_hourGoes 80 = .ok (.bipush 18, 2) := by decide +kernel
theorem dX12_hourGoes_82 : decode cX12_hourGoes 82 = .ok (.aload_n 1, 1) := by decide +kernel
theorem dX12_hourGoes_83 : decode cX12_hourGoes 83 = .ok (.bipush 18, 2) := by decide +kernel
theorem dX12_hourGoes_85 : decode cX12_hourGoes 85 = .ok (.iaload, 1) := by decide +kernel
theorem dX12_hourGoes_86 : decode cX12_hourGoes 86 = .ok (.aload_n 0, 1) := by decide +kernel
theorem dX12_hourGoes_87 : decode cX12_hourGoes 87 = .ok (.getfield 45, 3) := by decide +kernel
theorem dX12_hourGoes_90 : decode cX12_hourGoes 90 = .ok (.iload_n 2, 1) := by decide +kernel
theorem dX12_hourGoes_91 : decode cX12_hourGoes 91 = .ok (.iaload, 1) := by decide +kernel
theorem dX12_hourGoes_92 : decode cX12_hourGoes 92 = .ok (.iadd, 1) := by decide +kernel
theorem dX12_hourGoes_93 : decode cX12_hourGoes 93 = .ok (.ldc 128, 2) := by decide +kernel
theorem dX12_hourGoes_95 : decode cX12_hourGoes 95 = .ok (.invokestatic 129, 3) := by decide +kernel
theorem dX12_hourGoes_98 : decode cX12_hourGoes 98 = .ok (.iastore, 1) := by decide +kernel
theorem dX12_hourGoes_99 : decode cX12_hourGoes 99 = .ok (.goto 17, 3) := by decide +kernel
theorem dX12_hourGoes_102 : decode cX12_hourGoes 102 = .ok (.aload_n 1, 1) := by decide +kernel
theorem dX12_hourGoes_103 : decode cX12_hourGoes 103 = .ok (.iconst 0, 1) := by decide +kernel
theorem dX12_hourGoes_104 : decode cX12_hourGoes 104 = .ok (.iload_n 3, 1) := by decide +kernel
theorem dX12_hourGoes_105 : decode cX12_hourGoes 105 = .ok (.iadd, 1) := by decide +kernel
theorem dX12_hourGoes_106 : decode cX12_hourGoes 106 = .ok (.dup2, 1) := by decide +kernel
theorem dX12_hourGoes_107 : decode cX12_hourGoes 107 = .ok (.iaload, 1) := by decide +kernel
theorem dX12_hourGoes_108 : decode cX12_hourGoes 108 = .ok (.aload_n 0, 1) := by decide +kernel
theorem dX12_hourGoes_109 : decode cX12_hourGoes 109 = .ok (.getfield 45, 3) := by decide +kernel
theorem dX12_hourGoes_112 : decode cX12_hourGoes 112 = .ok (.iload_n 2, 1) := by decide +kernel
theorem dX12_hourGoes_113 : decode cX12_hourGoes 113 = .ok (.iaload, 1) := by decide +kernel
theorem dX12_hourGoes_114 : decode cX12_hourGoes 114 = .ok (.iadd, 1) := by decide +kernel
theorem dX12_hourGoes_115 : decode cX12_hourGoes 115 = .ok (.iastore, 1) := by decide +kernel
theorem dX12_hourGoes_116 : decode cX12_hourGoes 116 = .ok (.iinc 2 1, 3) := by decide +kernel
theorem dX12_hourGoes_119 : decode cX12_hourGoes 119 = .ok (.goto (-79), 3) := by decide +kernel
theorem dX12_hourGoes_122 : decode cX12_hourGoes 122 = .ok (.iconst 0, 1) := by decide +kernel
theorem dX12_hourGoes_123 : decode cX12_hourGoes 123 = .ok (.istore_n 2, 1) := by decide +kernel
theorem dX12_hourGoes_124 : decode cX12_hourGoes 124 = .ok (.iload_n 2, 1) := by decide +kernel
theorem dX12_hourGoes_125 : decode cX12_hourGoes 125 = .ok (.aload_n 0, 1) := by decide +kernel
theorem dX12_hourGoes_126 : decode cX12_hourGoes 126 = .ok (.getfield 7, 3) := by decide +kernel
theorem dX12_hourGoes_129 : decode cX12_hourGoes 129 = .ok (.iconst 2, 1) := by decide +kernel
theorem dX12_hourGoes_130 : decode cX12_hourGoes 130 = .ok (.iaload, 1) := by decide +kernel
theorem dX12_hourGoes_131 : decode cX12_hourGoes 131 = .ok (.if_icmp .ge 15, 3) := by decide +kernel
theorem dX12_hourGoes_134 : decode cX12_hourGoes 134 = .ok (.aload_n 0, 1) := by decide +kernel
theorem dX12_hourGoes_135 : decode cX12_hourGoes 135 = .ok (.aload_n 1, 1) := by decide +kernel
theorem dX12_hourGoes_136 : decode cX12_hourGoes 136 = .ok (.iload_n 2, 1) := by decide +kernel
theorem dX12_hourGoes_137 : decode cX12_hourGoes 137 = .ok (.invokevirtual 137, 3) := by decide +kernel
theorem dX12_hourGoes_140 : decode cX12_hourGoes 140 = .ok (.iinc 2 1, 3) := by decide +kernel
theorem dX12_hourGoes_143 : decode cX12_hourGoes 143 = .ok (.goto (-19), 3) := by decide +kernel
theorem dX12_hourGoes_146 : decode cX12_hourGoes 146 = .ok (.return_, 1) := by decide +kernel
theorem dX12_keptOf_0 : decode cX12_keptOf 0 = .ok (.iconst 0, 1) := by decide +kernel
theorem dX12_keptOf_1 : decode cX12_keptOf 1 = .ok (.istore_n 1, 1) := by decide +kernel
theorem dX12_keptOf_2 : decode cX12_keptOf 2 = .ok (.iconst 0, 1) := by decide +kernel
theorem dX12_keptOf_3 : decode cX12_keptOf 3 = .ok (.istore_n 2, 1) := by decide +kernel
theorem dX12_keptOf_4 : decode cX12_keptOf 4 = .ok (.iload_n 2, 1) := by decide +kernel
theorem dX12_keptOf_5 : decode cX12_keptOf 5 = .ok (.bipush 8, 2) := by decide +kernel
theorem dX12_keptOf_7 : decode cX12_keptOf 7 = .ok (.if_icmp .ge 17, 3) := by decide +kernel
theorem dX12_keptOf_10 : decode cX12_keptOf 10 = .ok (.iload_n 1, 1) := by decide +kernel
theorem dX12_keptOf_11 : decode cX12_keptOf 11 = .ok (.aload_n 0, 1) := by decide +kernel
theorem dX12_keptOf_12 : decode cX12_keptOf 12 = .ok (.iconst 0, 1) := by decide +kernel
theorem dX12_keptOf_13 : decode cX12_keptOf 13 = .ok (.iload_n 2, 1) := by decide +kernel
theorem dX12_keptOf_14 : decode cX12_keptOf 14 = .ok (.iadd, 1) := by decide +kernel
theorem dX12_keptOf_15 : decode cX12_keptOf 15 = .ok (.iaload, 1) := by decide +kernel
theorem dX12_keptOf_16 : decode cX12_keptOf 16 = .ok (.iadd, 1) := by decide +kernel
theorem dX12_keptOf_17 : decode cX12_keptOf 17 = .ok (.istore_n 1, 1) := by decide +kernel
theorem dX12_keptOf_18 : decode cX12_keptOf 18 = .ok (.iinc 2 1, 3) := by decide +kernel
theorem dX12_keptOf_21 : decode cX12_keptOf 21 = .ok (.goto (-17), 3) := by decide +kernel
theorem dX12_keptOf_24 : decode cX12_keptOf 24 = .ok (.iload_n 1, 1) := by decide +kernel
theorem dX12_keptOf_25 : decode cX12_keptOf 25 = .ok (.ireturn, 1) := by decide +kernel
theorem dX12_awayOnes_0 : decode cX12_awayOnes 0 = .ok (.iconst 0, 1) := by decide +kernel
theorem dX12_awayOnes_1 : decode cX12_awayOnes 1 = .ok (.istore_n 1, 1) := by decide +kernel
theorem dX12_awayOnes_2 : decode cX12_awayOnes 2 = .ok (.iconst 0, 1) := by decide +kernel
theorem dX12_awayOnes_3 : decode cX12_awayOnes 3 = .ok (.istore_n 2, 1) := by decide +kernel
theorem dX12_awayOnes_4 : decode cX12_awayOnes 4 = .ok (.iload_n 2, 1) := by decide +kernel
theorem dX12_awayOnes_5 : decode cX12_awayOnes 5 = .ok (.bipush 8, 2) := by decide +kernel
theorem dX12_awayOnes_7 : decode cX12_awayOnes 7 = .ok (.if_icmp .ge 31, 3) := by decide +kernel
theorem dX12_awayOnes_10 : decode cX12_awayOnes 10 = .ok (.iload_n 1, 1) := by decide +kernel
theorem dX12_awayOnes_11 : decode cX12_awayOnes 11 = .ok (.aload_n 0, 1) := by decide +kernel
theorem dX12_awayOnes_12 : decode cX12_awayOnes 12 = .ok (.getfield 16, 3) := by decide +kernel
theorem dX12_awayOnes_15 : decode cX12_awayOnes 15 = .ok (.bipush 8, 2) := by decide +kernel
theorem dX12_awayOnes_17 : decode cX12_awayOnes 17 = .ok (.iload_n 2, 1) := by decide +kernel
theorem dX12_awayOnes_18 : decode cX12_awayOnes 18 = .ok (.iadd, 1) := by decide +kernel
theorem dX12_awayOnes_19 : decode cX12_awayOnes 19 = .ok (.iaload, 1) := by decide +kernel
theorem dX12_awayOnes_20 : decode cX12_awayOnes 20 = .ok (.ifCond .le 9, 3) := by decide +kernel
theorem dX12_awayOnes_23 : decode cX12_awayOnes 23 = .ok (.iconst 1, 1) := by decide +kernel
theorem dX12_awayOnes_24 : decode cX12_awayOnes 24 = .ok (.iload_n 2, 1) := by decide +kernel
theorem dX12_awayOnes_25 : decode cX12_awayOnes 25 = .ok (.ishl, 1) := by decide +kernel
theorem dX12_awayOnes_26 : decode cX12_awayOnes 26 = .ok (.goto 4, 3) := by decide +kernel
theorem dX12_awayOnes_29 : decode cX12_awayOnes 29 = .ok (.iconst 0, 1) := by decide +kernel
theorem dX12_awayOnes_30 : decode cX12_awayOnes 30 = .ok (.ior, 1) := by decide +kernel
theorem dX12_awayOnes_31 : decode cX12_awayOnes 31 = .ok (.istore_n 1, 1) := by decide +kernel
theorem dX12_awayOnes_32 : decode cX12_awayOnes 32 = .ok (.iinc 2 1, 3) := by decide +kernel
theorem dX12_awayOnes_35 : decode cX12_awayOnes 35 = .ok (.goto (-31), 3) := by decide +kernel
theorem dX12_awayOnes_38 : decode cX12_awayOnes 38 = .ok (.iload_n 1, 1) := by decide +kernel
theorem dX12_awayOnes_39 : decode cX12_awayOnes 39 = .ok (.ireturn, 1) := by decide +kernel
theorem dX12_above_0 : decode cX12_above 0 = .ok (.iconst 0, 1) := by decide +kernel
theorem dX12_above_1 : decode cX12_above 1 = .ok (.istore_n 2, 1) := by decide +kernel
theorem dX12_above_2 : decode cX12_above 2 = .ok (.iconst 0, 1) := by decide +kernel
theorem dX12_above_3 : decode cX12_above 3 = .ok (.istore_n 3, 1) := by decide +kernel
theorem dX12_above_4 : decode cX12_above 4 = .ok (.iload_n 3, 1) := by decide +kernel
theorem dX12_above_5 : decode cX12_above 5 = .ok (.aload_n 0, 1) := by decide +kernel
theorem dX12_above_6 : decode cX12_above 6 = .ok (.getfield 7, 3) := by decide +kernel
theorem dX12_above_9 : decode cX12_above 9 = .ok (.iconst 2, 1) := by decide +kernel
theorem dX12_above_10 : decode cX12_above 10 = .ok (.iaload, 1) := by decide +kernel
theorem dX12_above_11 : decode cX12_above 11 = .ok (.if_icmp .ge 49, 3) := by decide +kernel
theorem dX12_above_14 : decode cX12_above 14 = .ok (.iload_n 3, 1) := by decide +kernel
theorem dX12_above_15 : decode cX12_above 15 = .ok (.istore 4, 2) := by decide +kernel
theorem dX12_above_17 : decode cX12_above 17 = .ok (.iload 4, 2) := by decide +kernel
theorem dX12_above_19 : decode cX12_above 19 = .ok (.iconst (-1), 1) := by decide +kernel
theorem dX12_above_20 : decode cX12_above 20 = .ok (.if_icmp .eq 34, 3) := by decide +kernel
theorem dX12_above_23 : decode cX12_above 23 = .ok (.iload_n 2, 1) := by decide +kernel
theorem dX12_above_24 : decode cX12_above 24 = .ok (.iload 4, 2) := by decide +kernel
theorem dX12_above_26 : decode cX12_above 26 = .ok (.iload_n 1, 1) := by decide +kernel
theorem dX12_above_27 : decode cX12_above 27 = .ok (.if_icmp .ne 9, 3) := by decide +kernel
theorem dX12_above_30 : decode cX12_above 30 = .ok (.iconst 1, 1) := by decide +kernel
theorem dX12_above_31 : decode cX12_above 31 = .ok (.iload_n 3, 1) := by decide +kernel
theorem dX12_above_32 : decode cX12_above 32 = .ok (.ishl, 1) := by decide +kernel
theorem dX12_above_33 : decode cX12_above 33 = .ok (.goto 4, 3) := by decide +kernel
theorem dX12_above_36 : decode cX12_above 36 = .ok (.iconst 0, 1) := by decide +kernel
theorem dX12_above_37 : decode cX12_above 37 = .ok (.ior, 1) := by decide +kernel
theorem dX12_above_38 : decode cX12_above 38 = .ok (.istore_n 2, 1) := by decide +kernel
theorem dX12_above_39 : decode cX12_above 39 = .ok (.aload_n 0, 1) := by decide +kernel
theorem dX12_above_40 : decode cX12_above 40 = .ok (.getfield 7, 3) := by decide +kernel
theorem dX12_above_43 : decode cX12_above 43 = .ok (.bipush 19, 2) := by decide +kernel
theorem dX12_above_45 : decode cX12_above 45 = .ok (.iload 4, 2) := by decide +kernel
theorem dX12_above_47 : decode cX12_above 47 = .ok (.iadd, 1) := by decide +kernel
theorem dX12_above_48 : decode cX12_above 48 = .ok (.iaload, 1) := by decide +kernel
theorem dX12_above_49 : decode cX12_above 49 = .ok (.istore 4, 2) := by decide +kernel
theorem dX12_above_51 : decode cX12_above 51 = .ok (.goto (-34), 3) := by decide +kernel
theorem dX12_above_54 : decode cX12_above 54 = .ok (.iinc 3 1, 3) := by decide +kernel
theorem dX12_above_57 : decode cX12_above 57 = .ok (.goto (-53), 3) := by decide +kernel
theorem dX12_above_60 : decode cX12_above 60 = .ok (.iload_n 2, 1) := by decide +kernel
theorem dX12_above_61 : decode cX12_above 61 = .ok (.ireturn, 1) := by decide +kernel
set_option maxRecDepth 20000 in
theorem ggX12_told_X12_isLent : GoodIn wsX12_told wsX12_isLent := goodIn_r _ [12, 1, 20, 21, 22, 23, 24, 25, 26, 27, 28, 29, 30, 31, 32, 33, 34, 35, 36, 37, 38, 39, 40, 41, 42, 43, 44] (by decide +kernel) (by decide +kernel)
set_option maxRecDepth 20000 in
theorem gX12_told_X12_isLent : GoodIn wsX12_told (wsV RX12 133 RX12 yX12_isLent wsX12_isLent) := goodIn_app (goodIn_of _ (by decide +kernel)) ggX12_told_X12_isLent
set_option maxRecDepth 20000 in
theorem ggX12_told_X12_keptOf : GoodIn wsX12_told wsX12_keptOf := goodIn_r _ [15] (by decide +kernel) (by decide +kernel)
set_option maxRecDepth 20000 in
theorem gX12_told_X12_keptOf : GoodIn wsX12_told (va_wsS RX12 141 yX12_keptOf wsX12_keptOf) := goodIn_app (goodIn_of _ (by decide +kernel)) ggX12_told_X12_keptOf
set_option maxRecDepth 20000 in
theorem ggX12_told_X12_awayOnes : GoodIn wsX12_told wsX12_awayOnes := goodIn_r _ [19, 3, 20, 21, 22, 23, 24, 25, 26, 27, 28, 29, 30, 31, 32, 33, 34, 35, 36, 37, 38, 39, 40, 41, 42, 43, 44] (by decide +kernel) (by decide +kernel)
set_option maxRecDepth 20000 in
theorem gX12_told_X12_awayOnes : GoodIn wsX12_told (wsV RX12 145 RX12 yX12_awayOnes wsX12_awayOnes) := goodIn_app (goodIn_of _ (by decide +kernel)) ggX12_told_X12_awayOnes
theorem dX12_told_0 : decode cX12_told 0 = .ok (.iload_n 1, 1) := by decide +kernel
theorem dX12_told_1 : decode cX12_told 1 = .ok (.tableswitch 148 0 12 #[67, 67, 67, 74, 79, 87, 104, 112, 120, 128, 133, 138, 143], 67) := by decide +kernel
theorem dX12_told_68 : decode cX12_told 68 = .ok (.aload_n 0, 1) := by decide +kernel
theorem dX12_told_69 : decode cX12_told 69 = .ok (.getfield 7, 3) := by decide +kernel
theorem dX12_told_72 : decode cX12_told 72 = .ok (.iload_n 1, 1) := by decide +kernel
theorem dX12_told_73 : decode cX12_told 73 = .ok (.iaload, 1) := by decide +kernel
theorem dX12_told_74 : decode cX12_told 74 = .ok (.ireturn, 1) := by decide +kernel
theorem dX12_told_75 : decode cX12_told 75 = .ok (.aload_n 0, 1) := by decide +kernel
theorem dX12_told_76 : decode cX12_told 76 = .ok (.getfield 70, 3) := by decide +kernel
theorem dX12_told_79 : decode cX12_told 79 = .ok (.ireturn, 1) := by decide +kernel
theorem dX12_told_80 : decode cX12_told 80 = .ok (.aload_n 0, 1) := by decide +kernel
theorem dX12_told_81 : decode cX12_told 81 = .ok (.getfield 16, 3) := by decide +kernel
theorem dX12_told_84 : decode cX12_told 84 = .ok (.bipush 16, 2) := by decide +kernel
theorem dX12_told_86 : decode cX12_told 86 = .ok (.iaload, 1) := by decide +kernel
theorem dX12_told_87 : decode cX12_told 87 = .ok (.ireturn, 1) := by decide +kernel
theorem dX12_told_88 : decode cX12_told 88 = .ok (.aload_n 0, 1) := by decide +kernel
theorem dX12_told_89 : decode cX12_told 89 = .ok (.aload_n 0, 1) := by decide +kernel
theorem dX12_told_90 : decode cX12_told 90 = .ok (.getfield 16, 3) := by decide +kernel
theorem dX12_told_93 : decode cX12_told 93 = .ok (.invokevirtual 133, 3) := by decide +kernel
theorem dX12_told_96 : decode cX12_told 96 = .ok (.ifCond .eq 7, 3) := by decide +kernel
theorem dX12_told_99 : decode cX12_told 99 = .ok (.iconst 1, 1) := by decide +kernel
theorem dX12_told_100 : decode cX12_told 100 = .ok (.goto 4, 3) := by decide +kernel
theorem dX12_told_103 : decode cX12_told 103 = .ok (.iconst 0, 1) := by decide +kernel
theorem dX12_told_104 : decode cX12_told 104 = .ok (.ireturn, 1) := by decide +kernel
theorem dX12_told_105 : decode cX12_told 105 = .ok (.aload_n 0, 1) := by decide +kernel
theorem dX12_told_106 : decode cX12_told 106 = .ok (.getfield 16, 3) := by decide +kernel
theorem dX12_told_109 : decode cX12_told 109 = .ok (.invokestatic 141, 3) := by decide +kernel
theorem dX12_told_112 : decode cX12_told 112 = .ok (.ireturn, 1) := by decide +kernel
theorem dX12_told_113 : decode cX12_told 113 = .ok (.aload_n 0, 1) := by decide +kernel
theorem dX12_told_114 : decode cX12_told 114 = .ok (.getfield 16, 3) := by decide +kernel
theorem dX12_told_117 : decode cX12_told 117 = .ok (.bipush 17, 2) := by decide +kernel
theorem dX12_told_119 : decode cX12_told 119 = .ok (.iaload, 1) := by decide +kernel
theorem dX12_told_120 : decode cX12_told 120 = .ok (.ireturn, 1) := by decide +kernel
theorem dX12_told_121 : decode cX12_told 121 = .ok (.aload_n 0, 1) := by decide +kernel
theorem dX12_told_122 : decode cX12_told 122 = .ok (.getfield 16, 3) := by decide +kernel
theorem dX12_told_125 : decode cX12_told 125 = .ok (.bipush 18, 2) := by decide +kernel
theorem dX12_told_127 : decode cX12_told 127 = .ok (.iaload, 1) := by decide +kernel
theorem dX12_told_128 : decode cX12_told 128 = .ok (.ireturn, 1) := by decide +kernel
theorem dX12_told_129 : decode cX12_told 129 = .ok (.aload_n 0, 1) := by decide +kernel
theorem dX12_told_130 : decode cX12_told 130 = .ok (.invokevirtual 145, 3) := by decide +kernel
theorem dX12_told_133 : decode cX12_told 133 = .ok (.ireturn, 1) := by decide +kernel
theorem dX12_told_134 : decode cX12_told 134 = .ok (.aload_n 0, 1) := by decide +kernel
theorem dX12_told_135 : decode cX12_told 135 = .ok (.getfield 57, 3) := by decide +kernel
theorem dX12_told_138 : decode cX12_told 138 = .ok (.ireturn, 1) := by decide +kernel
theorem dX12_told_139 : decode cX12_told 139 = .ok (.aload_n 0, 1) := by decide +kernel
theorem dX12_told_140 : decode cX12_told 140 = .ok (.getfield 60, 3) := by decide +kernel
theorem dX12_told_143 : decode cX12_told 143 = .ok (.ireturn, 1) := by decide +kernel
theorem dX12_told_144 : decode cX12_told 144 = .ok (.aload_n 0, 1) := by decide +kernel
theorem dX12_told_145 : decode cX12_told 145 = .ok (.getfield 54, 3) := by decide +kernel
theorem dX12_told_148 : decode cX12_told 148 = .ok (.ireturn, 1) := by decide +kernel
theorem dX12_told_149 : decode cX12_told 149 = .ok (.ldc 69, 2) := by decide +kernel
theorem dX12_told_151 : decode cX12_told 151 = .ok (.ireturn, 1) := by decide +kernel
set_option maxRecDepth 20000 in
theorem ggX12_house_X12_isHouse : GoodIn wsX12_house wsX12_isHouse := goodIn_r _ [9, 2, 10, 11, 8, 12, 17, 18, 19, 20, 21, 22, 23, 24, 25, 26, 27, 28, 29, 30, 31, 32, 33, 34, 35, 36, 37, 38, 39, 40, 41] (by decide +kernel) (by decide +kernel)
set_option maxRecDepth 20000 in
theorem gX12_house_X12_isHouse : GoodIn wsX12_house (wsV RX12 148 RX12 yX12_isHouse wsX12_isHouse) := goodIn_app (goodIn_of _ (by decide +kernel)) ggX12_house_X12_isHouse
set_option maxRecDepth 20000 in
theorem ggX12_house_X12_above : GoodIn wsX12_house wsX12_above := goodIn_r _ [16, 2, 17, 18, 19, 20, 21, 22, 23, 24, 25, 26, 27, 28, 29, 30, 31, 32, 33, 34, 35, 36, 37, 38, 39, 40, 41] (by decide +kernel) (by decide +kernel)
set_option maxRecDepth 20000 in
theorem gX12_house_X12_above : GoodIn wsX12_house (wsV RX12 152 RX12 yX12_above wsX12_above) := goodIn_app (goodIn_of _ (by decide +kernel)) ggX12_house_X12_above
theorem dX12_house_0 : decode cX12_house 0 = .ok (.aload_n 0, 1) := by decide +kernel
theorem dX12_house_1 : decode cX12_house 1 = .ok (.iload_n 1, 1) := by decide +kernel
theorem dX12_house_2 : decode cX12_house 2 = .ok (.invokevirtual 148, 3) := by decide +kernel
theorem dX12_house_5 : decode cX12_house 5 = .ok (.ifCond .ne 6, 3) := by decide +kernel
theorem dX12_house_8 : decode cX12_house 8 = .ok (.ldc 151, 2) := by decide +kernel
theorem dX12_house_10 : decode cX12_house 10 = .ok (.ireturn, 1) := by decide +kernel
theorem dX12_house_11 : decode cX12_house 11 = .ok (.iload_n 2, 1) := by decide +kernel
theorem dX12_house_12 : decode cX12_house 12 = .ok (.tableswitch 94 0 5 #[40, 49, 59, 69, 78, 88], 40) := by decide +kernel
theorem dX12_house_52 : decode cX12_house 52 = .ok (.aload_n 0, 1) := by decide +kernel
theorem dX12_house_53 : decode cX12_house 53 = .ok (.getfield 7, 3) := by decide +kernel
theorem dX12_house_56 : decode cX12_house 56 = .ok (.iconst 3, 1) := by decide +kernel
theorem dX12_house_57 : decode cX12_house 57 = .ok (.iload_n 1, 1) := by decide +kernel
theorem dX12_house_58 : decode cX12_house 58 = .ok (.iadd, 1) := by decide +kernel
theorem dX12_house_59 : decode cX12_house 59 = .ok (.iaload, 1) := by decide +kernel
theorem dX12_house_60 : decode cX12_house 60 = .ok (.ireturn, 1) := by decide +kernel
theorem dX12_house_61 : decode cX12_house 61 = .ok (.aload_n 0, 1) := by decide +kernel
theorem dX12_house_62 : decode cX12_house 62 = .ok (.getfield 7, 3) := by decide +kernel
theorem dX12_house_65 : decode cX12_house 65 = .ok (.bipush 11, 2) := by decide +kernel
theorem dX12_house_67 : decode cX12_house 67 = .ok (.iload_n 1, 1) := by decide +kernel
theorem dX12_house_68 : decode cX12_house 68 = .ok (.iadd, 1) := by decide +kernel
theorem dX12_house_69 : decode cX12_house 69 = .ok (.iaload, 1) := by decide +kernel
theorem dX12_house_70 : decode cX12_house 70 = .ok (.ireturn, 1) := by decide +kernel
theorem dX12_house_71 : decode cX12_house 71 = .ok (.aload_n 0, 1) := by decide +kernel
theorem dX12_house_72 : decode cX12_house 72 = .ok (.getfield 7, 3) := by decide +kernel
theorem dX12_house_75 : decode cX12_house 75 = .ok (.bipush 19, 2) := by decide +kernel
theorem dX12_house_77 : decode cX12_house 77 = .ok (.iload_n 1, 1) := by decide +kernel
theorem dX12_house_78 : decode cX12_house 78 = .ok (.iadd, 1) := by decide +kernel
theorem dX12_house_79 : decode cX12_house 79 = .ok (.iaload, 1) := by decide +kernel
theorem dX12_house_80 : decode cX12_house 80 = .ok (.ireturn, 1) := by decide +kernel
theorem dX12_house_81 : decode cX12_house 81 = .ok (.aload_n 0, 1) := by decide +kernel
theorem dX12_house_82 : decode cX12_house 82 = .ok (.getfield 16, 3) := by decide +kernel
theorem dX12_house_85 : decode cX12_house 85 = .ok (.iconst 0, 1) := by decide +kernel
theorem dX12_house_86 : decode cX12_house 86 = .ok (.iload_n 1, 1) := by decide +kernel
theorem dX12_house_87 : decode cX12_house 87 = .ok (.iadd, 1) := by decide +kernel
theorem dX12_house_88 : decode cX12_house 88 = .ok (.iaload, 1) := by decide +kernel
theorem dX12_house_89 : decode cX12_house 89 = .ok (.ireturn, 1) := by decide +kernel
theorem dX12_house_90 : decode cX12_house 90 = .ok (.aload_n 0, 1) := by decide +kernel
theorem dX12_house_91 : decode cX12_house 91 = .ok (.getfield 16, 3) := by decide +kernel
theorem dX12_house_94 : decode cX12_house 94 = .ok (.bipush 8, 2) := by decide +kernel
theorem dX12_house_96 : decode cX12_house 96 = .ok (.iload_n 1, 1) := by decide +kernel
theorem dX12_house_97 : decode cX12_house 97 = .ok (.iadd, 1) := by decide +kernel
theorem dX12_house_98 : decode cX12_house 98 = .ok (.iaload, 1) := by decide +kernel
theorem dX12_house_99 : decode cX12_house 99 = .ok (.ireturn, 1) := by decide +kernel
theorem dX12_house_100 : decode cX12_house 100 = .ok (.aload_n 0, 1) := by decide +kernel
theorem dX12_house_101 : decode cX12_house 101 = .ok (.iload_n 1, 1) := by decide +kernel
theorem dX12_house_102 : decode cX12_house 102 = .ok (.invokevirtual 152, 3) := by decide +kernel
theorem dX12_house_105 : decode cX12_house 105 = .ok (.ireturn, 1) := by decide +kernel
theorem dX12_house_106 : decode cX12_house 106 = .ok (.ldc 69, 2) := by decide +kernel
theorem dX12_house_108 : decode cX12_house 108 = .ok (.ireturn, 1) := by decide +kernel
set_option maxRecDepth 20000 in
theorem ggX12_remember_X12_copies : GoodIn wsX12_remember wsX12_copies := goodIn_r _ [7] (by decide +kernel) (by decide +kernel)
set_option maxRecDepth 20000 in
theorem gX12_remember_X12_copies : GoodIn wsX12_remember (va_wsS RX12 121 yX12_copies wsX12_copies) := goodIn_app (goodIn_of _ (by decide +kernel)) ggX12_remember_X12_copies
theorem dX12_remember_0 : decode cX12_remember 0 = .ok (.aload_n 0, 1) := by decide +kernel
theorem dX12_remember_1 : decode cX12_remember 1 = .ok (.getfield 54, 3) := by decide +kernel
theorem dX12_remember_4 : decode cX12_remember 4 = .ok (.bipush 30, 2) := by decide +kernel
theorem dX12_remember_6 : decode cX12_remember 6 = .ok (.if_icmp .ne 43, 3) := by decide +kernel
theorem dX12_remember_9 : decode cX12_remember 9 = .ok (.iconst 0, 1) := by decide +kernel
theorem dX12_remember_10 : decode cX12_remember 10 = .ok (.istore_n 1, 1) := by decide +kernel
theorem dX12_remember_11 : decode cX12_remember 11 = .ok (.iload_n 1, 1) := by decide +kernel
theorem dX12_remember_12 : decode cX12_remember 12 = .ok (.sipush 551, 3) := by decide +kernel
theorem dX12_remember_15 : decode cX12_remember 15 = .ok (.if_icmp .ge 24, 3) := by decide +kernel
theorem dX12_remember_18 : decode cX12_remember 18 = .ok (.aload_n 0, 1) := by decide +kernel
theorem dX12_remember_19 : decode cX12_remember 19 = .ok (.getfield 22, 3) := by decide +kernel
theorem dX12_remember_22 : decode cX12_remember 22 = .ok (.iload_n 1, 1) := by decide +kernel
theorem dX12_remember_23 : decode cX12_remember 23 = .ok (.aload_n 0, 1) := by decide +kernel
theorem dX12_remember_24 : decode cX12_remember 24 = .ok (.getfield 22, 3) := by decide +kernel
theorem dX12_remember_27 : decode cX12_remember 27 = .ok (.iload_n 1, 1) := by decide +kernel
theorem dX12_remember_28 : decode cX12_remember 28 = .ok (.bipush 19, 2) := by decide +kernel
theorem dX12_remember_30 : decode cX12_remember 30 = .ok (.iadd, 1) := by decide +kernel
theorem dX12_remember_31 : decode cX12_remember 31 = .ok (.iaload, 1) := by decide +kernel
theorem dX12_remember_32 : decode cX12_remember 32 = .ok (.iastore, 1) := by decide +kernel
theorem dX12_remember_33 : decode cX12_remember 33 = .ok (.iinc 1 1, 3) := by decide +kernel
theorem dX12_remember_36 : decode cX12_remember 36 = .ok (.goto (-25), 3) := by decide +kernel
theorem dX12_remember_39 : decode cX12_remember 39 = .ok (.aload_n 0, 1) := by decide +kernel
theorem dX12_remember_40 : decode cX12_remember 40 = .ok (.dup, 1) := by decide +kernel
theorem dX12_remember_41 : decode cX12_remember 41 = .ok (.getfield 54, 3) := by decide +kernel
theorem dX12_remember_44 : decode cX12_remember 44 = .ok (.iconst 1, 1) := by decide +kernel
theorem dX12_remember_45 : decode cX12_remember 45 = .ok (.isub, 1) := by decide +kernel
theorem dX12_remember_46 : decode cX12_remember 46 = .ok (.putfield 54, 3) := by decide +kernel
theorem dX12_remember_49 : decode cX12_remember 49 = .ok (.aload_n 0, 1) := by decide +kernel
theorem dX12_remember_50 : decode cX12_remember 50 = .ok (.getfield 16, 3) := by decide +kernel
theorem dX12_remember_53 : decode cX12_remember 53 = .ok (.iconst 0, 1) := by decide +kernel
theorem dX12_remember_54 : decode cX12_remember 54 = .ok (.aload_n 0, 1) := by decide +kernel
theorem dX12_remember_55 : decode cX12_remember 55 = .ok (.getfield 22, 3) := by decide +kernel
theorem dX12_remember_58 : decode cX12_remember 58 = .ok (.bipush 19, 2) := by decide +kernel
theorem dX12_remember_60 : decode cX12_remember 60 = .ok (.aload_n 0, 1) := by decide +kernel
theorem dX12_remember_61 : decode cX12_remember 61 = .ok (.getfield 54, 3) := by decide +kernel
theorem dX12_remember_64 : decode cX12_remember 64 = .ok (.imul, 1) := by decide +kernel
theorem dX12_remember_65 : decode cX12_remember 65 = .ok (.bipush 19, 2) := by decide +kernel
theorem dX12_remember_67 : decode cX12_remember 67 = .ok (.invokestatic 121, 3) := by decide +kernel
theorem dX12_remember_70 : decode cX12_remember 70 = .ok (.aload_n 0, 1) := by decide +kernel
theorem dX12_remember_71 : decode cX12_remember 71 = .ok (.dup, 1) := by decide +kernel
theorem dX12_remember_72 : decode cX12_remember 72 = .ok (.getfield 54, 3) := by decide +kernel
theorem dX12_remember_75 : decode cX12_remember 75 = .ok (.iconst 1, 1) := by decide +kernel
theorem dX12_remember_76 : decode cX12_remember 76 = .ok (.iadd, 1) := by decide +kernel
theorem dX12_remember_77 : decode cX12_remember 77 = .ok (.putfield 54, 3) := by decide +kernel
theorem dX12_remember_80 : decode cX12_remember 80 = .ok (.return_, 1) := by decide +kernel
set_option maxRecDepth 20000 in
theorem ggX12_refuses_X12_in : GoodIn wsX12_refuses wsX12_in := goodIn_r _ [10] (by decide +kernel) (by decide +kernel)
set_option maxRecDepth 20000 in
theorem gX12_refuses_X12_in : GoodIn wsX12_refuses (va_wsS RX12 65 yX12_in wsX12_in) := goodIn_app (goodIn_of _ (by decide +kernel)) ggX12_refuses_X12_in
theorem dX12_refuses_0 : decode cX12_refuses 0 = .ok (.iload_n 1, 1) := by decide +kernel
theorem dX12_refuses_1 : decode cX12_refuses 1 = .ok (.i2l, 1) := by decide +kernel
theorem dX12_refuses_2 : decode cX12_refuses 2 = .ok (.lconst 1, 1) := by decide +kernel
theorem dX12_refuses_3 : decode cX12_refuses 3 = .ok (.ldc2_w 156, 3) := by decide +kernel
theorem dX12_refuses_6 : decode cX12_refuses 6 = .ok (.invokestatic 65, 3) := by decide +kernel
theorem dX12_refuses_9 : decode cX12_refuses 9 = .ok (.ifCond .ne 6, 3) := by decide +kernel
theorem dX12_refuses_12 : decode cX12_refuses 12 = .ok (.ldc 69, 2) := by decide +kernel
theorem dX12_refuses_14 : decode cX12_refuses 14 = .ok (.ireturn, 1) := by decide +kernel
theorem dX12_refuses_15 : decode cX12_refuses 15 = .ok (.aload_n 0, 1) := by decide +kernel
theorem dX12_refuses_16 : decode cX12_refuses 16 = .ok (.getfield 7, 3) := by decide +kernel
theorem dX12_refuses_19 : decode cX12_refuses 19 = .ok (.iconst 0, 1) := by decide +kernel
theorem dX12_refuses_20 : decode cX12_refuses 20 = .ok (.iaload, 1) := by decide +kernel
theorem dX12_refuses_21 : decode cX12_refuses 21 = .ok (.ifCond .ne 8, 3) := by decide +kernel
theorem dX12_refuses_24 : decode cX12_refuses 24 = .ok (.ldc 158, 2) := by decide +kernel
theorem dX12_refuses_26 : decode cX12_refuses 26 = .ok (.goto 22, 3) := by decide +kernel
theorem dX12_refuses_29 : decode cX12_refuses 29 = .ok (.aload_n 0, 1) := by decide +kernel
theorem dX12_refuses_30 : decode cX12_refuses 30 = .ok (.getfield 16, 3) := by decide +kernel
theorem dX12_refuses_33 : decode cX12_refuses 33 = .ok (.bipush 16, 2) := by decide +kernel
theorem dX12_refuses_35 : decode cX12_refuses 35 = .ok (.iaload, 1) := by decide +kernel
theorem dX12_refuses_36 : decode cX12_refuses 36 = .ok (.sipush 9000, 3) := by decide +kernel
theorem dX12_refuses_39 : decode cX12_refuses 39 = .ok (.if_icmp .le 8, 3) := by decide +kernel
theorem dX12_refuses_42 : decode cX12_refuses 42 = .ok (.ldc 73, 2) := by decide +kernel
theorem dX12_refuses_44 : decode cX12_refuses 44 = .ok (.goto 4, 3) := by decide +kernel
theorem dX12_refuses_47 : decode cX12_refuses 47 = .ok (.iconst 0, 1) := by decide +kernel
theorem dX12_refuses_48 : decode cX12_refuses 48 = .ok (.ireturn, 1) := by decide +kernel
set_option maxRecDepth 20000 in
theorem ggX12_day_X12_refuses : GoodIn wsX12_day wsX12_refuses := goodIn_r _ [6, 7, 8, 9, 10, 1, 11, 12, 13, 5, 14, 43, 44, 45, 46, 47, 48, 49, 50, 51, 52, 53, 54, 55, 56, 57, 58, 59, 60, 61, 62, 63, 64, 65, 66, 67] (by decide +kernel) (by decide +kernel)
set_option maxRecDepth 20000 in
theorem gX12_day_X12_refuses : GoodIn wsX12_day (wsV RX12 159 RX12 yX12_refuses wsX12_refuses) := goodIn_app (goodIn_of _ (by decide +kernel)) ggX12_day_X12_refuses
set_option maxRecDepth 20000 in
theorem ggX12_day_X12_remember : GoodIn wsX12_day wsX12_remember := goodIn_r _ [18, 19, 20, 1, 21, 22, 5, 23, 43, 44, 45, 46, 47, 48, 49, 50, 51, 52, 53, 54, 55, 56, 57, 58, 59, 60, 61, 62, 63, 64, 65, 66, 67] (by decide +kernel) (by decide +kernel)
set_option maxRecDepth 20000 in
theorem gX12_day_X12_remember : GoodIn wsX12_day (wsV RX12 162 RX12 yX12_remember wsX12_remember) := goodIn_app (goodIn_of _ (by decide +kernel)) ggX12_day_X12_remember
set_option maxRecDepth 20000 in
theorem ggX12_day_X12_dayGoes : GoodIn wsX12_day wsX12_dayGoes := goodIn_r _ [27, 9, 28, 29, 30, 31, 5, 32, 33, 34, 35, 36, 37, 38, 39, 43, 44, 45, 46, 47, 48, 49, 50, 51, 52, 53, 54, 55, 56, 57, 58, 59, 60, 61, 62, 63, 64, 65, 66, 67] (by decide +kernel) (by decide +kernel)
set_option maxRecDepth 20000 in
theorem gX12_day_X12_dayGoes : GoodIn wsX12_day (wsV RX12 165 RX12 yX12_dayGoes wsX12_dayGoes) := goodIn_app (goodIn_of _ (by decide +kernel)) ggX12_day_X12_dayGoes
set_option maxRecDepth 20000 in
theorem ggX12_day_X12_keptOf : GoodIn wsX12_day wsX12_keptOf := goodIn_r _ [42] (by decide +kernel) (by decide +kernel)
set_option maxRecDepth 20000 in
theorem gX12_day_X12_keptOf : GoodIn wsX12_day (va_wsS RX12 141 yX12_keptOf wsX12_keptOf) := goodIn_app (goodIn_of _ (by decide +kernel)) ggX12_day_X12_keptOf
theorem dX12_day_0 : decode cX12_day 0 = .ok (.aload_n 0, 1) := by decide +kernel
theorem dX12_day_1 : decode cX12_day 1 = .ok (.iload_n 1, 1) := by decide +kernel
theorem dX12_day_2 : decode cX12_day 2 = .ok (.invokevirtual 159, 3) := by decide +kernel
theorem dX12_day_5 : decode cX12_day 5 = .ok (.istore_n 2, 1) := by decide +kernel
theorem dX12_day_6 : decode cX12_day 6 = .ok (.iload_n 2, 1) := by decide +kernel
theorem dX12_day_7 : decode cX12_day 7 = .ok (.ifCond .eq 5, 3) := by decide +kernel
theorem dX12_day_10 : decode cX12_day 10 = .ok (.iload_n 2, 1) := by decide +kernel
theorem dX12_day_11 : decode cX12_day 11 = .ok (.ireturn, 1) := by decide +kernel
theorem dX12_day_12 : decode cX12_day 12 = .ok (.iconst 0, 1) := by decide +kernel
theorem dX12_day_13 : decode cX12_day 13 = .ok (.istore_n 3, 1) := by decide +kernel
theorem dX12_day_14 : decode cX12_day 14 = .ok (.iload_n 3, 1) := by decide +kernel
theorem dX12_day_15 : decode cX12_day 15 = .ok (.iload_n 1, 1) := by decide +kernel
theorem dX12_day_16 : decode cX12_day 16 = .ok (.if_icmp .ge 23, 3) := by decide +kernel
theorem dX12_day_19 : decode cX12_day 19 = .ok (.aload_n 0, 1) := by decide +kernel
theorem dX12_day_20 : decode cX12_day 20 = .ok (.invokevirtual 162, 3) := by decide +kernel
theorem dX12_day_23 : decode cX12_day 23 = .ok (.aload_n 0, 1) := by decide +kernel
theorem dX12_day_24 : decode cX12_day 24 = .ok (.aload_n 0, 1) := by decide +kernel
theorem dX12_day_25 : decode cX12_day 25 = .ok (.getfield 16, 3) := by decide +kernel
theorem dX12_day_28 : decode cX12_day 28 = .ok (.iconst (-1), 1) := by decide +kernel
theorem dX12_day_29 : decode cX12_day 29 = .ok (.iconst 0, 1) := by decide +kernel
theorem dX12_day_30 : decode cX12_day 30 = .ok (.invokevirtual 165, 3) := by decide +kernel
theorem dX12_day_33 : decode cX12_day 33 = .ok (.iinc 3 1, 3) := by decide +kernel
theorem dX12_day_36 : decode cX12_day 36 = .ok (.goto (-22), 3) := by decide +kernel
theorem dX12_day_39 : decode cX12_day 39 = .ok (.aload_n 0, 1) := by decide +kernel
theorem dX12_day_40 : decode cX12_day 40 = .ok (.getfield 16, 3) := by decide +kernel
theorem dX12_day_43 : decode cX12_day 43 = .ok (.invokestatic 141, 3) := by decide +kernel
theorem dX12_day_46 : decode cX12_day 46 = .ok (.ireturn, 1) := by decide +kernel
set_option maxRecDepth 20000 in
theorem ggX12_pail_X12_isHouse : GoodIn wsX12_pail wsX12_isHouse := goodIn_r _ [11, 5, 12, 13, 10, 14, 24, 25, 26, 27, 28, 29, 30, 31, 32, 33, 34, 35, 36, 37, 38, 39, 40, 41, 42, 43, 44, 45, 46, 47, 48] (by decide +kernel) (by decide +kernel)
set_option maxRecDepth 20000 in
theorem gX12_pail_X12_isHouse : GoodIn wsX12_pail (wsV RX12 148 RX12 yX12_isHouse wsX12_isHouse) := goodIn_app (goodIn_of _ (by decide +kernel)) ggX12_pail_X12_isHouse
set_option maxRecDepth 20000 in
theorem ggX12_pail_X12_in : GoodIn wsX12_pail wsX12_in := goodIn_r _ [14] (by decide +kernel) (by decide +kernel)
set_option maxRecDepth 20000 in
theorem gX12_pail_X12_in : GoodIn wsX12_pail (va_wsS RX12 65 yX12_in wsX12_in) := goodIn_app (goodIn_of _ (by decide +kernel)) ggX12_pail_X12_in
set_option maxRecDepth 20000 in
theorem ggX12_pail_X12_remember : GoodIn wsX12_pail wsX12_remember := goodIn_r _ [18, 19, 20, 4, 21, 22, 10, 23, 24, 25, 26, 27, 28, 29, 30, 31, 32, 33, 34, 35, 36, 37, 38, 39, 40, 41, 42, 43, 44, 45, 46, 47, 48] (by decide +kernel) (by decide +kernel)
set_option maxRecDepth 20000 in
theorem gX12_pail_X12_remember : GoodIn wsX12_pail (wsV RX12 162 RX12 yX12_remember wsX12_remember) := goodIn_app (goodIn_of _ (by decide +kernel)) ggX12_pail_X12_remember
theorem dX12_pail_0 : decode cX12_pail 0 = .ok (.aload_n 0, 1) := by decide +kernel
theorem dX12_pail_1 : decode cX12_pail 1 = .ok (.iload_n 1, 1) := by decide +kernel
theorem dX12_pail_2 : decode cX12_pail 2 = .ok (.invokevirtual 148, 3) := by decide +kernel
theorem dX12_pail_5 : decode cX12_pail 5 = .ok (.ifCond .eq 16, 3) := by decide +kernel
theorem dX12_pail_8 : decode cX12_pail 8 = .ok (.aload_n 0, 1) := by decide +kernel
theorem dX12_pail_9 : decode cX12_pail 9 = .ok (.iload_n 2, 1) := by decide +kernel
theorem dX12_pail_10 : decode cX12_pail 10 = .ok (.invokevirtual 148, 3) := by decide +kernel
theorem dX12_pail_13 : decode cX12_pail 13 = .ok (.ifCond .eq 8, 3) := by decide +kernel
theorem dX12_pail_16 : decode cX12_pail 16 = .ok (.iload_n 1, 1) := by decide +kernel
theorem dX12_pail_17 : decode cX12_pail 17 = .ok (.iload_n 2, 1) := by decide +kernel
theorem dX12_pail_18 : decode cX12_pail 18 = .ok (.if_icmp .ne 6, 3) := by decide +kernel
theorem dX12_pail_21 : decode cX12_pail 21 = .ok (.ldc 151, 2) := by decide +kernel
theorem dX12_pail_23 : decode cX12_pail 23 = .ok (.ireturn, 1) := by decide +kernel
theorem dX12_pail_24 : decode cX12_pail 24 = .ok (.iload_n 3, 1) := by decide +kernel
theorem dX12_pail_25 : decode cX12_pail 25 = .ok (.i2l, 1) := by decide +kernel
theorem dX12_pail_26 : decode cX12_pail 26 = .ok (.lconst 1, 1) := by decide +kernel
theorem dX12_pail_27 : decode cX12_pail 27 = .ok (.ldc2_w 169, 3) := by decide +kernel
theorem dX12_pail_30 : decode cX12_pail 30 = .ok (.invokestatic 65, 3) := by decide +kernel
theorem dX12_pail_33 : decode cX12_pail 33 = .ok (.ifCond .ne 6, 3) := by decide +kernel
theorem dX12_pail_36 : decode cX12_pail 36 = .ok (.ldc 69, 2) := by decide +kernel
theorem dX12_pail_38 : decode cX12_pail 38 = .ok (.ireturn, 1) := by decide +kernel
theorem dX12_pail_39 : decode cX12_pail 39 = .ok (.aload_n 0, 1) := by decide +kernel
theorem dX12_pail_40 : decode cX12_pail 40 = .ok (.getfield 16, 3) := by decide +kernel
theorem dX12_pail_43 : decode cX12_pail 43 = .ok (.iconst 0, 1) := by decide +kernel
theorem dX12_pail_44 : decode cX12_pail 44 = .ok (.iload_n 1, 1) := by decide +kernel
theorem dX12_pail_45 : decode cX12_pail 45 = .ok (.iadd, 1) := by decide +kernel
theorem dX12_pail_46 : decode cX12_pail 46 = .ok (.iaload, 1) := by decide +kernel
theorem dX12_pail_47 : decode cX12_pail 47 = .ok (.iload_n 3, 1) := by decide +kernel
theorem dX12_pail_48 : decode cX12_pail 48 = .ok (.if_icmp .lt 24, 3) := by decide +kernel
theorem dX12_pail_51 : decode cX12_pail 51 = .ok (.aload_n 0, 1) := by decide +kernel
theorem dX12_pail_52 : decode cX12_pail 52 = .ok (.getfield 16, 3) := by decide +kernel
theorem dX12_pail_55 : decode cX12_pail 55 = .ok (.iconst 0, 1) := by decide +kernel
theorem dX12_pail_56 : decode cX12_pail 56 = .ok (.iload_n 2, 1) := by decide +kernel
theorem dX12_pail_57 : decode cX12_pail 57 = .ok (.iadd, 1) := by decide +kernel
theorem dX12_pail_58 : decode cX12_pail 58 = .ok (.iaload, 1) := by decide +kernel
theorem dX12_pail_59 : decode cX12_pail 59 = .ok (.iload_n 3, 1) := by decide +kernel
theorem dX12_pail_60 : decode cX12_pail 60 = .ok (.iadd, 1) := by decide +kernel
theorem dX12_pail_61 : decode cX12_pail 61 = .ok (.aload_n 0, 1) := by decide +kernel
theorem dX12_pail_62 : decode cX12_pail 62 = .ok (.getfield 7, 3) := by decide +kernel
theorem dX12_pail_65 : decode cX12_pail 65 = .ok (.iconst 3, 1) := by decide +kernel
theorem dX12_pail_66 : decode cX12_pail 66 = .ok (.iload_n 2, 1) := by decide +kernel
theorem dX12_pail_67 : decode cX12_pail 67 = .ok (.iadd, 1) := by decide +kernel
theorem dX12_pail_68 : decode cX12_pail 68 = .ok (.iaload, 1) := by decide +kernel
theorem dX12_pail_69 : decode cX12_pail 69 = .ok (.if_icmp .le 6, 3) := by decide +kernel
theorem dX12_pail_72 : decode cX12_pail 72 = .ok (.ldc 158, 2) := by decide +kernel
theorem dX12_pail_74 : decode cX12_pail 74 = .ok (.ireturn, 1) := by decide +kernel
theorem dX12_pail_75 : decode cX12_pail 75 = .ok (.aload_n 0, 1) := by decide +kernel
theorem dX12_pail_76 : decode cX12_pail 76 = .ok (.invokevirtual 162, 3) := by decide +kernel
theorem dX12_pail_79 : decode cX12_pail 79 = .ok (.aload_n 0, 1) := by decide +kernel
theorem dX12_pail_80 : decode cX12_pail 80 = .ok (.getfield 16, 3) := by decide +kernel
theorem dX12_pail_83 : decode cX12_pail 83 = .ok (.iconst 0, 1) := by decide +kernel
theorem dX12_pail_84 : decode cX12_pail 84 = .ok (.iload_n 1, 1) := by decide +kernel
theorem dX12_pail_85 : decode cX12_pail 85 = .ok (.iadd, 1) := by decide +kernel
theorem dX12_pail_86 : decode cX12_pail 86 = .ok (.dup2, 1) := by decide +kernel
theorem dX12_pail_87 : decode cX12_pail 87 = .ok (.iaload, 1) := by decide +kernel
theorem dX12_pail_88 : decode cX12_pail 88 = .ok (.iload_n 3, 1) := by decide +kernel
theorem dX12_pail_89 : decode cX12_pail 89 = .ok (.isub, 1) := by decide +kernel
theorem dX12_pail_90 : decode cX12_pail 90 = .ok (.iastore, 1) := by decide +kernel
theorem dX12_pail_91 : decode cX12_pail 91 = .ok (.aload_n 0, 1) := by decide +kernel
theorem dX12_pail_92 : decode cX12_pail 92 = .ok (.getfield 16, 3) := by decide +kernel
theorem dX12_pail_95 : decode cX12_pail 95 = .ok (.iconst 0, 1) := by decide +kernel
theorem dX12_pail_96 : decode cX12_pail 96 = .ok (.iload_n 2, 1) := by decide +kernel
theorem dX12_pail_97 : decode cX12_pail 97 = .ok (.iadd, 1) := by decide +kernel
theorem dX12_pail_98 : decode cX12_pail 98 = .ok (.dup2, 1) := by decide +kernel
theorem dX12_pail_99 : decode cX12_pail 99 = .ok (.iaload, 1) := by decide +kernel
theorem dX12_pail_100 : decode cX12_pail 100 = .ok (.iload_n 3, 1) := by decide +kernel
theorem dX12_pail_101 : decode cX12_pail 101 = .ok (.iadd, 1) := by decide +kernel
theorem dX12_pail_102 : decode cX12_pail 102 = .ok (.iastore, 1) := by decide +kernel
theorem dX12_pail_103 : decode cX12_pail 103 = .ok (.aload_n 0, 1) := by decide +kernel
theorem dX12_pail_104 : decode cX12_pail 104 = .ok (.getfield 16, 3) := by decide +kernel
theorem dX12_pail_107 : decode cX12_pail 107 = .ok (.iconst 0, 1) := by decide +kernel
theorem dX12_pail_108 : decode cX12_pail 108 = .ok (.iload_n 2, 1) := by decide +kernel
theorem dX12_pail_109 : decode cX12_pail 109 = .ok (.iadd, 1) := by decide +kernel
theorem dX12_pail_110 : decode cX12_pail 110 = .ok (.iaload, 1) := by decide +kernel
theorem dX12_pail_111 : decode cX12_pail 111 = .ok (.ireturn, 1) := by decide +kernel
set_option maxRecDepth 20000 in
theorem ggX12_aunt_X12_isHouse : GoodIn wsX12_aunt wsX12_isHouse := goodIn_r _ [9, 10, 11, 12, 8, 13, 23, 24, 25, 26, 27, 28, 29, 30, 31, 32, 33, 34, 35, 36, 37, 38, 39, 40, 41, 42, 43, 44, 45, 46, 47] (by decide +kernel) (by decide +kernel)
set_option maxRecDepth 20000 in
theorem gX12_aunt_X12_isHouse : GoodIn wsX12_aunt (wsV RX12 148 RX12 yX12_isHouse wsX12_isHouse) := goodIn_app (goodIn_of _ (by decide +kernel)) ggX12_aunt_X12_isHouse
set_option maxRecDepth 20000 in
theorem ggX12_aunt_X12_in : GoodIn wsX12_aunt wsX12_in := goodIn_r _ [13] (by decide +kernel) (by decide +kernel)
set_option maxRecDepth 20000 in
theorem gX12_aunt_X12_in : GoodIn wsX12_aunt (va_wsS RX12 65 yX12_in wsX12_in) := goodIn_app (goodIn_of _ (by decide +kernel)) ggX12_aunt_X12_in
set_option maxRecDepth 20000 in
theorem ggX12_aunt_X12_remember : GoodIn wsX12_aunt wsX12_remember := goodIn_r _ [17, 18, 19, 4, 20, 21, 8, 22, 23, 24, 25, 26, 27, 28, 29, 30, 31, 32, 33, 34, 35, 36, 37, 38, 39, 40, 41, 42, 43, 44, 45, 46, 47] (by decide +kernel) (by decide +kernel)
set_option maxRecDepth 20000 in
theorem gX12_aunt_X12_remember : GoodIn wsX12_aunt (wsV RX12 162 RX12 yX12_remember wsX12_remember) := goodIn_app (goodIn_of _ (by decide +kernel)) ggX12_aunt_X12_remember
theorem dX12_aunt_0 : decode cX12_aunt 0 = .ok (.aload_n 0, 1) := by decide +kernel
theorem dX12_aunt_1 : decode cX12_aunt 1 = .ok (.iload_n 1, 1) := by decide +kernel
theorem dX12_aunt_2 : decode cX12_aunt 2 = .ok (.invokevirtual 148, 3) := by decide +kernel
theorem dX12_aunt_5 : decode cX12_aunt 5 = .ok (.ifCond .ne 6, 3) := by decide +kernel
theorem dX12_aunt_8 : decode cX12_aunt 8 = .ok (.ldc 151, 2) := by decide +kernel
theorem dX12_aunt_10 : decode cX12_aunt 10 = .ok (.ireturn, 1) := by decide +kernel
