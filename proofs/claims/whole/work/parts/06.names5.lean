theorem dX12_aunt_11 : decode cX12_aunt 11 = .ok (.iload_n 2, 1) := by decide +kernel
theorem dX12_aunt_12 : decode cX12_aunt 12 = .ok (.i2l, 1) := by decide +kernel
theorem dX12_aunt_13 : decode cX12_aunt 13 = .ok (.lconst 0, 1) := by decide +kernel
theorem dX12_aunt_14 : decode cX12_aunt 14 = .ok (.ldc2_w 171, 3) := by decide +kernel
theorem dX12_aunt_17 : decode cX12_aunt 17 = .ok (.invokestatic 65, 3) := by decide +kernel
theorem dX12_aunt_20 : decode cX12_aunt 20 = .ok (.ifCond .ne 6, 3) := by decide +kernel
theorem dX12_aunt_23 : decode cX12_aunt 23 = .ok (.ldc 69, 2) := by decide +kernel
theorem dX12_aunt_25 : decode cX12_aunt 25 = .ok (.ireturn, 1) := by decide +kernel
theorem dX12_aunt_26 : decode cX12_aunt 26 = .ok (.aload_n 0, 1) := by decide +kernel
theorem dX12_aunt_27 : decode cX12_aunt 27 = .ok (.invokevirtual 162, 3) := by decide +kernel
theorem dX12_aunt_30 : decode cX12_aunt 30 = .ok (.aload_n 0, 1) := by decide +kernel
theorem dX12_aunt_31 : decode cX12_aunt 31 = .ok (.getfield 16, 3) := by decide +kernel
theorem dX12_aunt_34 : decode cX12_aunt 34 = .ok (.bipush 8, 2) := by decide +kernel
theorem dX12_aunt_36 : decode cX12_aunt 36 = .ok (.iload_n 1, 1) := by decide +kernel
theorem dX12_aunt_37 : decode cX12_aunt 37 = .ok (.iadd, 1) := by decide +kernel
theorem dX12_aunt_38 : decode cX12_aunt 38 = .ok (.iaload, 1) := by decide +kernel
theorem dX12_aunt_39 : decode cX12_aunt 39 = .ok (.istore_n 3, 1) := by decide +kernel
theorem dX12_aunt_40 : decode cX12_aunt 40 = .ok (.aload_n 0, 1) := by decide +kernel
theorem dX12_aunt_41 : decode cX12_aunt 41 = .ok (.getfield 16, 3) := by decide +kernel
theorem dX12_aunt_44 : decode cX12_aunt 44 = .ok (.bipush 8, 2) := by decide +kernel
theorem dX12_aunt_46 : decode cX12_aunt 46 = .ok (.iload_n 1, 1) := by decide +kernel
theorem dX12_aunt_47 : decode cX12_aunt 47 = .ok (.iadd, 1) := by decide +kernel
theorem dX12_aunt_48 : decode cX12_aunt 48 = .ok (.iload_n 2, 1) := by decide +kernel
theorem dX12_aunt_49 : decode cX12_aunt 49 = .ok (.iastore, 1) := by decide +kernel
theorem dX12_aunt_50 : decode cX12_aunt 50 = .ok (.iload_n 3, 1) := by decide +kernel
theorem dX12_aunt_51 : decode cX12_aunt 51 = .ok (.ireturn, 1) := by decide +kernel
set_option maxRecDepth 20000 in
theorem ggX12_hour_X12_in : GoodIn wsX12_hour wsX12_in := goodIn_r _ [9] (by decide +kernel) (by decide +kernel)
set_option maxRecDepth 20000 in
theorem gX12_hour_X12_in : GoodIn wsX12_hour (va_wsS RX12 65 yX12_in wsX12_in) := goodIn_app (goodIn_of _ (by decide +kernel)) ggX12_hour_X12_in
set_option maxRecDepth 20000 in
theorem ggX12_hour_X12_isLent : GoodIn wsX12_hour wsX12_isLent := goodIn_r _ [13, 3, 39, 40, 41, 42, 43, 44, 45, 46, 47, 48, 49, 50, 51, 52, 53, 54, 55, 56, 57, 58, 59, 60, 61, 62, 63] (by decide +kernel) (by decide +kernel)
set_option maxRecDepth 20000 in
theorem gX12_hour_X12_isLent : GoodIn wsX12_hour (wsV RX12 133 RX12 yX12_isLent wsX12_isLent) := goodIn_app (goodIn_of _ (by decide +kernel)) ggX12_hour_X12_isLent
set_option maxRecDepth 20000 in
theorem ggX12_hour_X12_remember : GoodIn wsX12_hour wsX12_remember := goodIn_r _ [17, 18, 19, 4, 20, 21, 8, 22, 39, 40, 41, 42, 43, 44, 45, 46, 47, 48, 49, 50, 51, 52, 53, 54, 55, 56, 57, 58, 59, 60, 61, 62, 63] (by decide +kernel) (by decide +kernel)
set_option maxRecDepth 20000 in
theorem gX12_hour_X12_remember : GoodIn wsX12_hour (wsV RX12 162 RX12 yX12_remember wsX12_remember) := goodIn_app (goodIn_of _ (by decide +kernel)) ggX12_hour_X12_remember
set_option maxRecDepth 20000 in
theorem ggX12_hour_X12_hourGoes : GoodIn wsX12_hour wsX12_hourGoes := goodIn_r _ [26, 3, 27, 28, 29, 30, 8, 31, 32, 33, 34, 35, 39, 40, 41, 42, 43, 44, 45, 46, 47, 48, 49, 50, 51, 52, 53, 54, 55, 56, 57, 58, 59, 60, 61, 62, 63] (by decide +kernel) (by decide +kernel)
set_option maxRecDepth 20000 in
theorem gX12_hour_X12_hourGoes : GoodIn wsX12_hour (wsV RX12 173 RX12 yX12_hourGoes wsX12_hourGoes) := goodIn_app (goodIn_of _ (by decide +kernel)) ggX12_hour_X12_hourGoes
set_option maxRecDepth 20000 in
theorem ggX12_hour_X12_keptOf : GoodIn wsX12_hour wsX12_keptOf := goodIn_r _ [38] (by decide +kernel) (by decide +kernel)
set_option maxRecDepth 20000 in
theorem gX12_hour_X12_keptOf : GoodIn wsX12_hour (va_wsS RX12 141 yX12_keptOf wsX12_keptOf) := goodIn_app (goodIn_of _ (by decide +kernel)) ggX12_hour_X12_keptOf
theorem dX12_hour_0 : decode cX12_hour 0 = .ok (.iload_n 1, 1) := by decide +kernel
theorem dX12_hour_1 : decode cX12_hour 1 = .ok (.i2l, 1) := by decide +kernel
theorem dX12_hour_2 : decode cX12_hour 2 = .ok (.lconst 1, 1) := by decide +kernel
theorem dX12_hour_3 : decode cX12_hour 3 = .ok (.ldc2_w 156, 3) := by decide +kernel
theorem dX12_hour_6 : decode cX12_hour 6 = .ok (.invokestatic 65, 3) := by decide +kernel
theorem dX12_hour_9 : decode cX12_hour 9 = .ok (.ifCond .ne 6, 3) := by decide +kernel
theorem dX12_hour_12 : decode cX12_hour 12 = .ok (.ldc 69, 2) := by decide +kernel
theorem dX12_hour_14 : decode cX12_hour 14 = .ok (.ireturn, 1) := by decide +kernel
theorem dX12_hour_15 : decode cX12_hour 15 = .ok (.aload_n 0, 1) := by decide +kernel
theorem dX12_hour_16 : decode cX12_hour 16 = .ok (.getfield 7, 3) := by decide +kernel
theorem dX12_hour_19 : decode cX12_hour 19 = .ok (.iconst 0, 1) := by decide +kernel
theorem dX12_hour_20 : decode cX12_hour 20 = .ok (.iaload, 1) := by decide +kernel
theorem dX12_hour_21 : decode cX12_hour 21 = .ok (.ifCond .eq 14, 3) := by decide +kernel
theorem dX12_hour_24 : decode cX12_hour 24 = .ok (.aload_n 0, 1) := by decide +kernel
theorem dX12_hour_25 : decode cX12_hour 25 = .ok (.aload_n 0, 1) := by decide +kernel
theorem dX12_hour_26 : decode cX12_hour 26 = .ok (.getfield 16, 3) := by decide +kernel
theorem dX12_hour_29 : decode cX12_hour 29 = .ok (.invokevirtual 133, 3) := by decide +kernel
theorem dX12_hour_32 : decode cX12_hour 32 = .ok (.ifCond .eq 6, 3) := by decide +kernel
theorem dX12_hour_35 : decode cX12_hour 35 = .ok (.ldc 158, 2) := by decide +kernel
theorem dX12_hour_37 : decode cX12_hour 37 = .ok (.ireturn, 1) := by decide +kernel
theorem dX12_hour_38 : decode cX12_hour 38 = .ok (.iconst 0, 1) := by decide +kernel
theorem dX12_hour_39 : decode cX12_hour 39 = .ok (.istore_n 2, 1) := by decide +kernel
theorem dX12_hour_40 : decode cX12_hour 40 = .ok (.iload_n 2, 1) := by decide +kernel
theorem dX12_hour_41 : decode cX12_hour 41 = .ok (.iload_n 1, 1) := by decide +kernel
theorem dX12_hour_42 : decode cX12_hour 42 = .ok (.if_icmp .ge 21, 3) := by decide +kernel
theorem dX12_hour_45 : decode cX12_hour 45 = .ok (.aload_n 0, 1) := by decide +kernel
theorem dX12_hour_46 : decode cX12_hour 46 = .ok (.invokevirtual 162, 3) := by decide +kernel
theorem dX12_hour_49 : decode cX12_hour 49 = .ok (.aload_n 0, 1) := by decide +kernel
theorem dX12_hour_50 : decode cX12_hour 50 = .ok (.aload_n 0, 1) := by decide +kernel
theorem dX12_hour_51 : decode cX12_hour 51 = .ok (.getfield 16, 3) := by decide +kernel
theorem dX12_hour_54 : decode cX12_hour 54 = .ok (.invokevirtual 173, 3) := by decide +kernel
theorem dX12_hour_57 : decode cX12_hour 57 = .ok (.iinc 2 1, 3) := by decide +kernel
theorem dX12_hour_60 : decode cX12_hour 60 = .ok (.goto (-20), 3) := by decide +kernel
theorem dX12_hour_63 : decode cX12_hour 63 = .ok (.aload_n 0, 1) := by decide +kernel
theorem dX12_hour_64 : decode cX12_hour 64 = .ok (.getfield 16, 3) := by decide +kernel
theorem dX12_hour_67 : decode cX12_hour 67 = .ok (.invokestatic 141, 3) := by decide +kernel
theorem dX12_hour_70 : decode cX12_hour 70 = .ok (.ireturn, 1) := by decide +kernel
theorem dX12_draw_0 : decode cX12_draw 0 = .ok (.aload_n 0, 1) := by decide +kernel
theorem dX12_draw_1 : decode cX12_draw 1 = .ok (.aload_n 0, 1) := by decide +kernel
theorem dX12_draw_2 : decode cX12_draw 2 = .ok (.getfield 177, 3) := by decide +kernel
theorem dX12_draw_5 : decode cX12_draw 5 = .ok (.ldc2_w 181, 3) := by decide +kernel
theorem dX12_draw_8 : decode cX12_draw 8 = .ok (.lmul, 1) := by decide +kernel
theorem dX12_draw_9 : decode cX12_draw 9 = .ok (.ldc2_w 183, 3) := by decide +kernel
theorem dX12_draw_12 : decode cX12_draw 12 = .ok (.ladd, 1) := by decide +kernel
theorem dX12_draw_13 : decode cX12_draw 13 = .ok (.ldc2_w 185, 3) := by decide +kernel
theorem dX12_draw_16 : decode cX12_draw 16 = .ok (.lrem, 1) := by decide +kernel
theorem dX12_draw_17 : decode cX12_draw 17 = .ok (.putfield 177, 3) := by decide +kernel
theorem dX12_draw_20 : decode cX12_draw 20 = .ok (.aload_n 0, 1) := by decide +kernel
theorem dX12_draw_21 : decode cX12_draw 21 = .ok (.getfield 177, 3) := by decide +kernel
theorem dX12_draw_24 : decode cX12_draw 24 = .ok (.ldc2_w 187, 3) := by decide +kernel
theorem dX12_draw_27 : decode cX12_draw 27 = .ok (.ldiv, 1) := by decide +kernel
theorem dX12_draw_28 : decode cX12_draw 28 = .ok (.iload_n 1, 1) := by decide +kernel
theorem dX12_draw_29 : decode cX12_draw 29 = .ok (.i2l, 1) := by decide +kernel
theorem dX12_draw_30 : decode cX12_draw 30 = .ok (.lrem, 1) := by decide +kernel
theorem dX12_draw_31 : decode cX12_draw 31 = .ok (.l2i, 1) := by decide +kernel
theorem dX12_draw_32 : decode cX12_draw 32 = .ok (.ireturn, 1) := by decide +kernel
set_option maxRecDepth 20000 in
theorem ggX12_drift_X12_refuses : GoodIn wsX12_drift wsX12_refuses := goodIn_r _ [7, 8, 9, 1, 10, 2, 11, 12, 13, 6, 14, 52, 53, 54, 55, 56, 57, 58, 59, 60, 61, 62, 63, 64, 65, 66, 67, 68, 69, 70, 71, 72, 73, 74, 75, 76] (by decide +kernel) (by decide +kernel)
set_option maxRecDepth 20000 in
theorem gX12_drift_X12_refuses : GoodIn wsX12_drift (wsV RX12 159 RX12 yX12_refuses wsX12_refuses) := goodIn_app (goodIn_of _ (by decide +kernel)) ggX12_drift_X12_refuses
set_option maxRecDepth 20000 in
theorem ggX12_drift_X12_remember : GoodIn wsX12_drift wsX12_remember := goodIn_r _ [18, 19, 20, 2, 21, 22, 6, 23, 52, 53, 54, 55, 56, 57, 58, 59, 60, 61, 62, 63, 64, 65, 66, 67, 68, 69, 70, 71, 72, 73, 74, 75, 76] (by decide +kernel) (by decide +kernel)
set_option maxRecDepth 20000 in
theorem gX12_drift_X12_remember : GoodIn wsX12_drift (wsV RX12 162 RX12 yX12_remember wsX12_remember) := goodIn_app (goodIn_of _ (by decide +kernel)) ggX12_drift_X12_remember
set_option maxRecDepth 20000 in
theorem ggX12_drift_X12_draw : GoodIn wsX12_drift wsX12_draw := goodIn_r _ [27, 28, 29, 30, 31, 32, 52, 53, 54, 55, 56, 57, 58, 59, 60, 61, 62, 63, 64, 65, 66, 67, 68, 69, 70, 71, 72, 73, 74, 75, 76] (by decide +kernel) (by decide +kernel)
set_option maxRecDepth 20000 in
theorem gX12_drift_X12_draw : GoodIn wsX12_drift (wsV RX12 189 RX12 yX12_draw wsX12_draw) := goodIn_app (goodIn_of _ (by decide +kernel)) ggX12_drift_X12_draw
set_option maxRecDepth 20000 in
theorem ggX12_drift_X12_dayGoes : GoodIn wsX12_drift wsX12_dayGoes := goodIn_r _ [36, 1, 37, 38, 39, 40, 6, 41, 42, 43, 44, 45, 46, 47, 48, 52, 53, 54, 55, 56, 57, 58, 59, 60, 61, 62, 63, 64, 65, 66, 67, 68, 69, 70, 71, 72, 73, 74, 75, 76] (by decide +kernel) (by decide +kernel)
set_option maxRecDepth 20000 in
theorem gX12_drift_X12_dayGoes : GoodIn wsX12_drift (wsV RX12 165 RX12 yX12_dayGoes wsX12_dayGoes) := goodIn_app (goodIn_of _ (by decide +kernel)) ggX12_drift_X12_dayGoes
set_option maxRecDepth 20000 in
theorem ggX12_drift_X12_keptOf : GoodIn wsX12_drift wsX12_keptOf := goodIn_r _ [51] (by decide +kernel) (by decide +kernel)
set_option maxRecDepth 20000 in
theorem gX12_drift_X12_keptOf : GoodIn wsX12_drift (va_wsS RX12 141 yX12_keptOf wsX12_keptOf) := goodIn_app (goodIn_of _ (by decide +kernel)) ggX12_drift_X12_keptOf
theorem dX12_drift_0 : decode cX12_drift 0 = .ok (.aload_n 0, 1) := by decide +kernel
theorem dX12_drift_1 : decode cX12_drift 1 = .ok (.iload_n 1, 1) := by decide +kernel
theorem dX12_drift_2 : decode cX12_drift 2 = .ok (.invokevirtual 159, 3) := by decide +kernel
theorem dX12_drift_5 : decode cX12_drift 5 = .ok (.istore_n 2, 1) := by decide +kernel
theorem dX12_drift_6 : decode cX12_drift 6 = .ok (.iload_n 2, 1) := by decide +kernel
theorem dX12_drift_7 : decode cX12_drift 7 = .ok (.ifCond .eq 5, 3) := by decide +kernel
theorem dX12_drift_10 : decode cX12_drift 10 = .ok (.iload_n 2, 1) := by decide +kernel
theorem dX12_drift_11 : decode cX12_drift 11 = .ok (.ireturn, 1) := by decide +kernel
theorem dX12_drift_12 : decode cX12_drift 12 = .ok (.iconst 0, 1) := by decide +kernel
theorem dX12_drift_13 : decode cX12_drift 13 = .ok (.istore_n 3, 1) := by decide +kernel
theorem dX12_drift_14 : decode cX12_drift 14 = .ok (.iload_n 3, 1) := by decide +kernel
theorem dX12_drift_15 : decode cX12_drift 15 = .ok (.iload_n 1, 1) := by decide +kernel
theorem dX12_drift_16 : decode cX12_drift 16 = .ok (.if_icmp .ge 95, 3) := by decide +kernel
theorem dX12_drift_19 : decode cX12_drift 19 = .ok (.aload_n 0, 1) := by decide +kernel
theorem dX12_drift_20 : decode cX12_drift 20 = .ok (.invokevirtual 162, 3) := by decide +kernel
theorem dX12_drift_23 : decode cX12_drift 23 = .ok (.iconst (-1), 1) := by decide +kernel
theorem dX12_drift_24 : decode cX12_drift 24 = .ok (.istore 4, 2) := by decide +kernel
theorem dX12_drift_26 : decode cX12_drift 26 = .ok (.iconst 0, 1) := by decide +kernel
theorem dX12_drift_27 : decode cX12_drift 27 = .ok (.istore 5, 2) := by decide +kernel
theorem dX12_drift_29 : decode cX12_drift 29 = .ok (.aload_n 0, 1) := by decide +kernel
theorem dX12_drift_30 : decode cX12_drift 30 = .ok (.getfield 7, 3) := by decide +kernel
theorem dX12_drift_33 : decode cX12_drift 33 = .ok (.iconst 2, 1) := by decide +kernel
theorem dX12_drift_34 : decode cX12_drift 34 = .ok (.iaload, 1) := by decide +kernel
theorem dX12_drift_35 : decode cX12_drift 35 = .ok (.ifCond .le 58, 3) := by decide +kernel
theorem dX12_drift_38 : decode cX12_drift 38 = .ok (.aload_n 0, 1) := by decide +kernel
theorem dX12_drift_39 : decode cX12_drift 39 = .ok (.aload_n 0, 1) := by decide +kernel
theorem dX12_drift_40 : decode cX12_drift 40 = .ok (.getfield 7, 3) := by decide +kernel
theorem dX12_drift_43 : decode cX12_drift 43 = .ok (.iconst 2, 1) := by decide +kernel
theorem dX12_drift_44 : decode cX12_drift 44 = .ok (.iaload, 1) := by decide +kernel
theorem dX12_drift_45 : decode cX12_drift 45 = .ok (.invokevirtual 189, 3) := by decide +kernel
theorem dX12_drift_48 : decode cX12_drift 48 = .ok (.istore 6, 2) := by decide +kernel
theorem dX12_drift_50 : decode cX12_drift 50 = .ok (.aload_n 0, 1) := by decide +kernel
theorem dX12_drift_51 : decode cX12_drift 51 = .ok (.iconst 4, 1) := by decide +kernel
theorem dX12_drift_52 : decode cX12_drift 52 = .ok (.invokevirtual 189, 3) := by decide +kernel
theorem dX12_drift_55 : decode cX12_drift 55 = .ok (.ifCond .ne 18, 3) := by decide +kernel
theorem dX12_drift_58 : decode cX12_drift 58 = .ok (.aload_n 0, 1) := by decide +kernel
theorem dX12_drift_59 : decode cX12_drift 59 = .ok (.getfield 16, 3) := by decide +kernel
theorem dX12_drift_62 : decode cX12_drift 62 = .ok (.bipush 8, 2) := by decide +kernel
theorem dX12_drift_64 : decode cX12_drift 64 = .ok (.iload 6, 2) := by decide +kernel
theorem dX12_drift_66 : decode cX12_drift 66 = .ok (.iadd, 1) := by decide +kernel
theorem dX12_drift_67 : decode cX12_drift 67 = .ok (.aload_n 0, 1) := by decide +kernel
theorem dX12_drift_68 : decode cX12_drift 68 = .ok (.iconst 5, 1) := by decide +kernel
theorem dX12_drift_69 : decode cX12_drift 69 = .ok (.invokevirtual 189, 3) := by decide +kernel
theorem dX12_drift_72 : decode cX12_drift 72 = .ok (.iastore, 1) := by decide +kernel
theorem dX12_drift_73 : decode cX12_drift 73 = .ok (.aload_n 0, 1) := by decide +kernel
theorem dX12_drift_74 : decode cX12_drift 74 = .ok (.aload_n 0, 1) := by decide +kernel
theorem dX12_drift_75 : decode cX12_drift 75 = .ok (.getfield 7, 3) := by decide +kernel
theorem dX12_drift_78 : decode cX12_drift 78 = .ok (.iconst 2, 1) := by decide +kernel
theorem dX12_drift_79 : decode cX12_drift 79 = .ok (.iaload, 1) := by decide +kernel
theorem dX12_drift_80 : decode cX12_drift 80 = .ok (.invokevirtual 189, 3) := by decide +kernel
theorem dX12_drift_83 : decode cX12_drift 83 = .ok (.istore 4, 2) := by decide +kernel
theorem dX12_drift_85 : decode cX12_drift 85 = .ok (.aload_n 0, 1) := by decide +kernel
theorem dX12_drift_86 : decode cX12_drift 86 = .ok (.bipush 10, 2) := by decide +kernel
theorem dX12_drift_88 : decode cX12_drift 88 = .ok (.invokevirtual 189, 3) := by decide +kernel
theorem dX12_drift_91 : decode cX12_drift 91 = .ok (.istore 5, 2) := by decide +kernel
theorem dX12_drift_93 : decode cX12_drift 93 = .ok (.aload_n 0, 1) := by decide +kernel
theorem dX12_drift_94 : decode cX12_drift 94 = .ok (.aload_n 0, 1) := by decide +kernel
theorem dX12_drift_95 : decode cX12_drift 95 = .ok (.getfield 16, 3) := by decide +kernel
theorem dX12_drift_98 : decode cX12_drift 98 = .ok (.iload 4, 2) := by decide +kernel
theorem dX12_drift_100 : decode cX12_drift 100 = .ok (.iload 5, 2) := by decide +kernel
theorem dX12_drift_102 : decode cX12_drift 102 = .ok (.invokevirtual 165, 3) := by decide +kernel
theorem dX12_drift_105 : decode cX12_drift 105 = .ok (.iinc 3 1, 3) := by decide +kernel
theorem dX12_drift_108 : decode cX12_drift 108 = .ok (.goto (-94), 3) := by decide +kernel
theorem dX12_drift_111 : decode cX12_drift 111 = .ok (.aload_n 0, 1) := by decide +kernel
theorem dX12_drift_112 : decode cX12_drift 112 = .ok (.getfield 16, 3) := by decide +kernel
theorem dX12_drift_115 : decode cX12_drift 115 = .ok (.invokestatic 141, 3) := by decide +kernel
theorem dX12_drift_118 : decode cX12_drift 118 = .ok (.ireturn, 1) := by decide +kernel
set_option maxRecDepth 20000 in
theorem ggX12_undo_X12_in : GoodIn wsX12_undo wsX12_in := goodIn_r _ [10] (by decide +kernel) (by decide +kernel)
set_option maxRecDepth 20000 in
theorem gX12_undo_X12_in : GoodIn wsX12_undo (va_wsS RX12 65 yX12_in wsX12_in) := goodIn_app (goodIn_of _ (by decide +kernel)) ggX12_undo_X12_in
set_option maxRecDepth 20000 in
theorem ggX12_undo_X12_copies : GoodIn wsX12_undo wsX12_copies := goodIn_r _ [13] (by decide +kernel) (by decide +kernel)
set_option maxRecDepth 20000 in
theorem gX12_undo_X12_copies : GoodIn wsX12_undo (va_wsS RX12 121 yX12_copies wsX12_copies) := goodIn_app (goodIn_of _ (by decide +kernel)) ggX12_undo_X12_copies
theorem dX12_undo_0 : decode cX12_undo 0 = .ok (.iload_n 1, 1) := by decide +kernel
theorem dX12_undo_1 : decode cX12_undo 1 = .ok (.i2l, 1) := by decide +kernel
theorem dX12_undo_2 : decode cX12_undo 2 = .ok (.lconst 1, 1) := by decide +kernel
theorem dX12_undo_3 : decode cX12_undo 3 = .ok (.ldc2_w 156, 3) := by decide +kernel
theorem dX12_undo_6 : decode cX12_undo 6 = .ok (.invokestatic 65, 3) := by decide +kernel
theorem dX12_undo_9 : decode cX12_undo 9 = .ok (.ifCond .ne 6, 3) := by decide +kernel
theorem dX12_undo_12 : decode cX12_undo 12 = .ok (.ldc 69, 2) := by decide +kernel
theorem dX12_undo_14 : decode cX12_undo 14 = .ok (.ireturn, 1) := by decide +kernel
theorem dX12_undo_15 : decode cX12_undo 15 = .ok (.aload_n 0, 1) := by decide +kernel
theorem dX12_undo_16 : decode cX12_undo 16 = .ok (.getfield 54, 3) := by decide +kernel
theorem dX12_undo_19 : decode cX12_undo 19 = .ok (.iload_n 1, 1) := by decide +kernel
theorem dX12_undo_20 : decode cX12_undo 20 = .ok (.if_icmp .ge 6, 3) := by decide +kernel
theorem dX12_undo_23 : decode cX12_undo 23 = .ok (.ldc 158, 2) := by decide +kernel
theorem dX12_undo_25 : decode cX12_undo 25 = .ok (.ireturn, 1) := by decide +kernel
theorem dX12_undo_26 : decode cX12_undo 26 = .ok (.aload_n 0, 1) := by decide +kernel
theorem dX12_undo_27 : decode cX12_undo 27 = .ok (.dup, 1) := by decide +kernel
theorem dX12_undo_28 : decode cX12_undo 28 = .ok (.getfield 54, 3) := by decide +kernel
theorem dX12_undo_31 : decode cX12_undo 31 = .ok (.iload_n 1, 1) := by decide +kernel
theorem dX12_undo_32 : decode cX12_undo 32 = .ok (.isub, 1) := by decide +kernel
theorem dX12_undo_33 : decode cX12_undo 33 = .ok (.putfield 54, 3) := by decide +kernel
theorem dX12_undo_36 : decode cX12_undo 36 = .ok (.aload_n 0, 1) := by decide +kernel
theorem dX12_undo_37 : decode cX12_undo 37 = .ok (.getfield 22, 3) := by decide +kernel
theorem dX12_undo_40 : decode cX12_undo 40 = .ok (.bipush 19, 2) := by decide +kernel
theorem dX12_undo_42 : decode cX12_undo 42 = .ok (.aload_n 0, 1) := by decide +kernel
theorem dX12_undo_43 : decode cX12_undo 43 = .ok (.getfield 54, 3) := by decide +kernel
theorem dX12_undo_46 : decode cX12_undo 46 = .ok (.imul, 1) := by decide +kernel
theorem dX12_undo_47 : decode cX12_undo 47 = .ok (.aload_n 0, 1) := by decide +kernel
theorem dX12_undo_48 : decode cX12_undo 48 = .ok (.getfield 16, 3) := by decide +kernel
theorem dX12_undo_51 : decode cX12_undo 51 = .ok (.iconst 0, 1) := by decide +kernel
theorem dX12_undo_52 : decode cX12_undo 52 = .ok (.bipush 19, 2) := by decide +kernel
theorem dX12_undo_54 : decode cX12_undo 54 = .ok (.invokestatic 121, 3) := by decide +kernel
theorem dX12_undo_57 : decode cX12_undo 57 = .ok (.aload_n 0, 1) := by decide +kernel
theorem dX12_undo_58 : decode cX12_undo 58 = .ok (.getfield 16, 3) := by decide +kernel
theorem dX12_undo_61 : decode cX12_undo 61 = .ok (.bipush 16, 2) := by decide +kernel
theorem dX12_undo_63 : decode cX12_undo 63 = .ok (.iaload, 1) := by decide +kernel
theorem dX12_undo_64 : decode cX12_undo 64 = .ok (.ireturn, 1) := by decide +kernel
set_option maxRecDepth 20000 in
theorem ggX12_layAside_X12_copies : GoodIn wsX12_layAside wsX12_copies := goodIn_r _ [6] (by decide +kernel) (by decide +kernel)
set_option maxRecDepth 20000 in
theorem gX12_layAside_X12_copies : GoodIn wsX12_layAside (va_wsS RX12 121 yX12_copies wsX12_copies) := goodIn_app (goodIn_of _ (by decide +kernel)) ggX12_layAside_X12_copies
theorem dX12_layAside_0 : decode cX12_layAside 0 = .ok (.aload_n 0, 1) := by decide +kernel
theorem dX12_layAside_1 : decode cX12_layAside 1 = .ok (.getfield 16, 3) := by decide +kernel
theorem dX12_layAside_4 : decode cX12_layAside 4 = .ok (.iconst 0, 1) := by decide +kernel
theorem dX12_layAside_5 : decode cX12_layAside 5 = .ok (.aload_n 0, 1) := by decide +kernel
theorem dX12_layAside_6 : decode cX12_layAside 6 = .ok (.getfield 19, 3) := by decide +kernel
theorem dX12_layAside_9 : decode cX12_layAside 9 = .ok (.iconst 0, 1) := by decide +kernel
theorem dX12_layAside_10 : decode cX12_layAside 10 = .ok (.bipush 19, 2) := by decide +kernel
theorem dX12_layAside_12 : decode cX12_layAside 12 = .ok (.invokestatic 121, 3) := by decide +kernel
theorem dX12_layAside_15 : decode cX12_layAside 15 = .ok (.return_, 1) := by decide +kernel
set_option maxRecDepth 20000 in
theorem ggX12_goDays_X12_layAside : GoodIn wsX12_goDays wsX12_layAside := goodIn_r _ [6, 7, 1, 8, 9, 5, 10, 28, 29, 30, 31, 32, 33, 34, 35, 36, 37, 38, 39, 40, 41, 42, 43, 44, 45, 46, 47, 48, 49, 50, 51, 52] (by decide +kernel) (by decide +kernel)
set_option maxRecDepth 20000 in
theorem gX12_goDays_X12_layAside : GoodIn wsX12_goDays (wsV RX12 192 RX12 yX12_layAside wsX12_layAside) := goodIn_app (goodIn_of _ (by decide +kernel)) ggX12_goDays_X12_layAside
set_option maxRecDepth 20000 in
theorem ggX12_goDays_X12_dayGoes : GoodIn wsX12_goDays wsX12_dayGoes := goodIn_r _ [14, 15, 16, 17, 18, 19, 5, 20, 21, 22, 23, 24, 25, 26, 27, 28, 29, 30, 31, 32, 33, 34, 35, 36, 37, 38, 39, 40, 41, 42, 43, 44, 45, 46, 47, 48, 49, 50, 51, 52] (by decide +kernel) (by decide +kernel)
set_option maxRecDepth 20000 in
theorem gX12_goDays_X12_dayGoes : GoodIn wsX12_goDays (wsV RX12 165 RX12 yX12_dayGoes wsX12_dayGoes) := goodIn_app (goodIn_of _ (by decide +kernel)) ggX12_goDays_X12_dayGoes
theorem dX12_goDays_0 : decode cX12_goDays 0 = .ok (.aload_n 0, 1) := by decide +kernel
theorem dX12_goDays_1 : decode cX12_goDays 1 = .ok (.invokevirtual 192, 3) := by decide +kernel
theorem dX12_goDays_4 : decode cX12_goDays 4 = .ok (.aload_n 0, 1) := by decide +kernel
theorem dX12_goDays_5 : decode cX12_goDays 5 = .ok (.getfield 19, 3) := by decide +kernel
theorem dX12_goDays_8 : decode cX12_goDays 8 = .ok (.bipush 17, 2) := by decide +kernel
theorem dX12_goDays_10 : decode cX12_goDays 10 = .ok (.iconst 0, 1) := by decide +kernel
theorem dX12_goDays_11 : decode cX12_goDays 11 = .ok (.iastore, 1) := by decide +kernel
theorem dX12_goDays_12 : decode cX12_goDays 12 = .ok (.iconst 0, 1) := by decide +kernel
theorem dX12_goDays_13 : decode cX12_goDays 13 = .ok (.istore_n 2, 1) := by decide +kernel
theorem dX12_goDays_14 : decode cX12_goDays 14 = .ok (.iload_n 2, 1) := by decide +kernel
theorem dX12_goDays_15 : decode cX12_goDays 15 = .ok (.iload_n 1, 1) := by decide +kernel
theorem dX12_goDays_16 : decode cX12_goDays 16 = .ok (.if_icmp .ge 19, 3) := by decide +kernel
theorem dX12_goDays_19 : decode cX12_goDays 19 = .ok (.aload_n 0, 1) := by decide +kernel
theorem dX12_goDays_20 : decode cX12_goDays 20 = .ok (.aload_n 0, 1) := by decide +kernel
theorem dX12_goDays_21 : decode cX12_goDays 21 = .ok (.getfield 19, 3) := by decide +kernel
theorem dX12_goDays_24 : decode cX12_goDays 24 = .ok (.iconst (-1), 1) := by decide +kernel
theorem dX12_goDays_25 : decode cX12_goDays 25 = .ok (.iconst 0, 1) := by decide +kernel
theorem dX12_goDays_26 : decode cX12_goDays 26 = .ok (.invokevirtual 165, 3) := by decide +kernel
theorem dX12_goDays_29 : decode cX12_goDays 29 = .ok (.iinc 2 1, 3) := by decide +kernel
theorem dX12_goDays_32 : decode cX12_goDays 32 = .ok (.goto (-18), 3) := by decide +kernel
theorem dX12_goDays_35 : decode cX12_goDays 35 = .ok (.return_, 1) := by decide +kernel
set_option maxRecDepth 20000 in
theorem ggX12_level_X12_isHouse : GoodIn wsX12_level wsX12_isHouse := goodIn_r _ [9, 10, 11, 12, 8, 13, 42, 43, 44, 45, 46, 47, 48, 49, 50, 51, 52, 53, 54, 55, 56, 57, 58, 59, 60, 61, 62, 63, 64, 65, 66] (by decide +kernel) (by decide +kernel)
set_option maxRecDepth 20000 in
theorem gX12_level_X12_isHouse : GoodIn wsX12_level (wsV RX12 148 RX12 yX12_isHouse wsX12_isHouse) := goodIn_app (goodIn_of _ (by decide +kernel)) ggX12_level_X12_isHouse
set_option maxRecDepth 20000 in
theorem ggX12_level_X12_in : GoodIn wsX12_level wsX12_in := goodIn_r _ [13] (by decide +kernel) (by decide +kernel)
set_option maxRecDepth 20000 in
theorem gX12_level_X12_in : GoodIn wsX12_level (va_wsS RX12 65 yX12_in wsX12_in) := goodIn_app (goodIn_of _ (by decide +kernel)) ggX12_level_X12_in
set_option maxRecDepth 20000 in
theorem ggX12_level_X12_goDays : GoodIn wsX12_level wsX12_goDays := goodIn_r _ [17, 4, 18, 19, 20, 8, 21, 22, 23, 24, 25, 26, 27, 28, 29, 10, 30, 31, 32, 33, 34, 35, 36, 37, 38, 39, 40, 41, 42, 43, 44, 45, 46, 47, 48, 49, 50, 51, 52, 53, 54, 55, 56, 57, 58, 59, 60, 61, 62, 63, 64, 65, 66] (by decide +kernel) (by decide +kernel)
set_option maxRecDepth 20000 in
theorem gX12_level_X12_goDays : GoodIn wsX12_level (wsV RX12 195 RX12 yX12_goDays wsX12_goDays) := goodIn_app (goodIn_of _ (by decide +kernel)) ggX12_level_X12_goDays
theorem dX12_level_0 : decode cX12_level 0 = .ok (.aload_n 0, 1) := by decide +kernel
theorem dX12_level_1 : decode cX12_level 1 = .ok (.iload_n 1, 1) := by decide +kernel
theorem dX12_level_2 : decode cX12_level 2 = .ok (.invokevirtual 148, 3) := by decide +kernel
theorem dX12_level_5 : decode cX12_level 5 = .ok (.ifCond .ne 6, 3) := by decide +kernel
theorem dX12_level_8 : decode cX12_level 8 = .ok (.ldc 151, 2) := by decide +kernel
theorem dX12_level_10 : decode cX12_level 10 = .ok (.ireturn, 1) := by decide +kernel
theorem dX12_level_11 : decode cX12_level 11 = .ok (.iload_n 2, 1) := by decide +kernel
theorem dX12_level_12 : decode cX12_level 12 = .ok (.i2l, 1) := by decide +kernel
theorem dX12_level_13 : decode cX12_level 13 = .ok (.lconst 0, 1) := by decide +kernel
theorem dX12_level_14 : decode cX12_level 14 = .ok (.ldc2_w 171, 3) := by decide +kernel
theorem dX12_level_17 : decode cX12_level 17 = .ok (.invokestatic 65, 3) := by decide +kernel
theorem dX12_level_20 : decode cX12_level 20 = .ok (.ifCond .ne 6, 3) := by decide +kernel
theorem dX12_level_23 : decode cX12_level 23 = .ok (.ldc 69, 2) := by decide +kernel
theorem dX12_level_25 : decode cX12_level 25 = .ok (.ireturn, 1) := by decide +kernel
theorem dX12_level_26 : decode cX12_level 26 = .ok (.aload_n 0, 1) := by decide +kernel
theorem dX12_level_27 : decode cX12_level 27 = .ok (.iload_n 2, 1) := by decide +kernel
theorem dX12_level_28 : decode cX12_level 28 = .ok (.invokevirtual 195, 3) := by decide +kernel
theorem dX12_level_31 : decode cX12_level 31 = .ok (.aload_n 0, 1) := by decide +kernel
theorem dX12_level_32 : decode cX12_level 32 = .ok (.getfield 19, 3) := by decide +kernel
theorem dX12_level_35 : decode cX12_level 35 = .ok (.iconst 0, 1) := by decide +kernel
theorem dX12_level_36 : decode cX12_level 36 = .ok (.iload_n 1, 1) := by decide +kernel
theorem dX12_level_37 : decode cX12_level 37 = .ok (.iadd, 1) := by decide +kernel
theorem dX12_level_38 : decode cX12_level 38 = .ok (.iaload, 1) := by decide +kernel
theorem dX12_level_39 : decode cX12_level 39 = .ok (.ireturn, 1) := by decide +kernel
set_option maxRecDepth 20000 in
theorem ggX12_spills_X12_in : GoodIn wsX12_spills wsX12_in := goodIn_r _ [7] (by decide +kernel) (by decide +kernel)
set_option maxRecDepth 20000 in
theorem gX12_spills_X12_in : GoodIn wsX12_spills (va_wsS RX12 65 yX12_in wsX12_in) := goodIn_app (goodIn_of _ (by decide +kernel)) ggX12_spills_X12_in
set_option maxRecDepth 20000 in
theorem ggX12_spills_X12_goDays : GoodIn wsX12_spills wsX12_goDays := goodIn_r _ [11, 3, 12, 13, 14, 6, 15, 16, 17, 18, 19, 20, 21, 22, 23, 24, 25, 26, 27, 28, 29, 30, 31, 32, 33, 34, 35, 36, 37, 38, 39, 40, 41, 42, 43, 44, 45, 46, 47, 48, 49, 50, 51, 52, 53, 54, 55, 56, 57, 58, 59, 60, 61] (by decide +kernel) (by decide +kernel)
set_option maxRecDepth 20000 in
theorem gX12_spills_X12_goDays : GoodIn wsX12_spills (wsV RX12 195 RX12 yX12_goDays wsX12_goDays) := goodIn_app (goodIn_of _ (by decide +kernel)) ggX12_spills_X12_goDays
theorem dX12_spills_0 : decode cX12_spills 0 = .ok (.iload_n 1, 1) := by decide +kernel
theorem dX12_spills_1 : decode cX12_spills 1 = .ok (.i2l, 1) := by decide +kernel
theorem dX12_spills_2 : decode cX12_spills 2 = .ok (.lconst 0, 1) := by decide +kernel
theorem dX12_spills_3 : decode cX12_spills 3 = .ok (.ldc2_w 171, 3) := by decide +kernel
theorem dX12_spills_6 : decode cX12_spills 6 = .ok (.invokestatic 65, 3) := by decide +kernel
theorem dX12_spills_9 : decode cX12_spills 9 = .ok (.ifCond .ne 6, 3) := by decide +kernel
theorem dX12_spills_12 : decode cX12_spills 12 = .ok (.ldc 69, 2) := by decide +kernel
theorem dX12_spills_14 : decode cX12_spills 14 = .ok (.ireturn, 1) := by decide +kernel
theorem dX12_spills_15 : decode cX12_spills 15 = .ok (.aload_n 0, 1) := by decide +kernel
theorem dX12_spills_16 : decode cX12_spills 16 = .ok (.iload_n 1, 1) := by decide +kernel
theorem dX12_spills_17 : decode cX12_spills 17 = .ok (.invokevirtual 195, 3) := by decide +kernel
theorem dX12_spills_20 : decode cX12_spills 20 = .ok (.aload_n 0, 1) := by decide +kernel
theorem dX12_spills_21 : decode cX12_spills 21 = .ok (.getfield 19, 3) := by decide +kernel
theorem dX12_spills_24 : decode cX12_spills 24 = .ok (.bipush 17, 2) := by decide +kernel
theorem dX12_spills_26 : decode cX12_spills 26 = .ok (.iaload, 1) := by decide +kernel
theorem dX12_spills_27 : decode cX12_spills 27 = .ok (.ireturn, 1) := by decide +kernel
set_option maxRecDepth 20000 in
theorem ggX12_daysOfLent_X12_isLent : GoodIn wsX12_daysOfLent wsX12_isLent := goodIn_r _ [7, 2, 8, 9, 10, 11, 12, 13, 14, 15, 16, 17, 18, 19, 20, 21, 22, 23, 24, 25, 26, 27, 28, 29, 30, 31, 32] (by decide +kernel) (by decide +kernel)
set_option maxRecDepth 20000 in
theorem gX12_daysOfLent_X12_isLent : GoodIn wsX12_daysOfLent (wsV RX12 133 RX12 yX12_isLent wsX12_isLent) := goodIn_app (goodIn_of _ (by decide +kernel)) ggX12_daysOfLent_X12_isLent
theorem dX12_daysOfLent_0 : decode cX12_daysOfLent 0 = .ok (.aload_n 0, 1) := by decide +kernel
theorem dX12_daysOfLent_1 : decode cX12_daysOfLent 1 = .ok (.aload_n 0, 1) := by decide +kernel
theorem dX12_daysOfLent_2 : decode cX12_daysOfLent 2 = .ok (.getfield 16, 3) := by decide +kernel
theorem dX12_daysOfLent_5 : decode cX12_daysOfLent 5 = .ok (.invokevirtual 133, 3) := by decide +kernel
theorem dX12_daysOfLent_8 : decode cX12_daysOfLent 8 = .ok (.ifCond .eq 20, 3) := by decide +kernel
theorem dX12_daysOfLent_11 : decode cX12_daysOfLent 11 = .ok (.aload_n 0, 1) := by decide +kernel
theorem dX12_daysOfLent_12 : decode cX12_daysOfLent 12 = .ok (.getfield 7, 3) := by decide +kernel
theorem dX12_daysOfLent_15 : decode cX12_daysOfLent 15 = .ok (.iconst 0, 1) := by decide +kernel
theorem dX12_daysOfLent_16 : decode cX12_daysOfLent 16 = .ok (.iaload, 1) := by decide +kernel
theorem dX12_daysOfLent_17 : decode cX12_daysOfLent 17 = .ok (.aload_n 0, 1) := by decide +kernel
theorem dX12_daysOfLent_18 : decode cX12_daysOfLent 18 = .ok (.getfield 16, 3) := by decide +kernel
theorem dX12_daysOfLent_21 : decode cX12_daysOfLent 21 = .ok (.bipush 16, 2) := by decide +kernel
theorem dX12_daysOfLent_23 : decode cX12_daysOfLent 23 = .ok (.iaload, 1) := by decide +kernel
theorem dX12_daysOfLent_24 : decode cX12_daysOfLent 24 = .ok (.isub, 1) := by decide +kernel
theorem dX12_daysOfLent_25 : decode cX12_daysOfLent 25 = .ok (.goto 4, 3) := by decide +kernel
theorem dX12_daysOfLent_28 : decode cX12_daysOfLent 28 = .ok (.iconst 0, 1) := by decide +kernel
theorem dX12_daysOfLent_29 : decode cX12_daysOfLent 29 = .ok (.ireturn, 1) := by decide +kernel
set_option maxRecDepth 20000 in
theorem ggX12_bears_X12_daysOfLent : GoodIn wsX12_bears wsX12_daysOfLent := goodIn_r _ [7, 2, 1, 8, 9, 10, 6, 11, 19, 20, 21, 22, 23, 24, 25, 26, 27, 28, 29, 30, 31, 32, 33, 34, 35, 36, 37, 38, 39, 40, 41, 42, 43] (by decide +kernel) (by decide +kernel)
set_option maxRecDepth 20000 in
theorem gX12_bears_X12_daysOfLent : GoodIn wsX12_bears (wsV RX12 199 RX12 yX12_daysOfLent wsX12_daysOfLent) := goodIn_app (goodIn_of _ (by decide +kernel)) ggX12_bears_X12_daysOfLent
set_option maxRecDepth 20000 in
theorem ggX12_bears_X12_above : GoodIn wsX12_bears wsX12_above := goodIn_r _ [15, 1, 19, 20, 21, 22, 23, 24, 25, 26, 27, 28, 29, 30, 31, 32, 33, 34, 35, 36, 37, 38, 39, 40, 41, 42, 43] (by decide +kernel) (by decide +kernel)
set_option maxRecDepth 20000 in
theorem gX12_bears_X12_above : GoodIn wsX12_bears (wsV RX12 152 RX12 yX12_above wsX12_above) := goodIn_app (goodIn_of _ (by decide +kernel)) ggX12_bears_X12_above
set_option maxRecDepth 20000 in
theorem ggX12_bears_X12_has : GoodIn wsX12_bears wsX12_has := goodIn_r _ [18] (by decide +kernel) (by decide +kernel)
set_option maxRecDepth 20000 in
theorem gX12_bears_X12_has : GoodIn wsX12_bears (va_wsS RX12 202 yX12_has wsX12_has) := goodIn_app (goodIn_of _ (by decide +kernel)) ggX12_bears_X12_has
theorem dX12_bears_0 : decode cX12_bears 0 = .ok (.aload_n 0, 1) := by decide +kernel
theorem dX12_bears_1 : decode cX12_bears 1 = .ok (.invokevirtual 199, 3) := by decide +kernel
theorem dX12_bears_4 : decode cX12_bears 4 = .ok (.istore_n 2, 1) := by decide +kernel
theorem dX12_bears_5 : decode cX12_bears 5 = .ok (.iconst 1, 1) := by decide +kernel
theorem dX12_bears_6 : decode cX12_bears 6 = .ok (.istore_n 3, 1) := by decide +kernel
theorem dX12_bears_7 : decode cX12_bears 7 = .ok (.iconst 0, 1) := by decide +kernel
theorem dX12_bears_8 : decode cX12_bears 8 = .ok (.istore 4, 2) := by decide +kernel
theorem dX12_bears_10 : decode cX12_bears 10 = .ok (.iload 4, 2) := by decide +kernel
theorem dX12_bears_12 : decode cX12_bears 12 = .ok (.aload_n 0, 1) := by decide +kernel
theorem dX12_bears_13 : decode cX12_bears 13 = .ok (.getfield 7, 3) := by decide +kernel
theorem dX12_bears_16 : decode cX12_bears 16 = .ok (.iconst 2, 1) := by decide +kernel
theorem dX12_bears_17 : decode cX12_bears 17 = .ok (.iaload, 1) := by decide +kernel
theorem dX12_bears_18 : decode cX12_bears 18 = .ok (.if_icmp .ge 133, 3) := by decide +kernel
theorem dX12_bears_21 : decode cX12_bears 21 = .ok (.iconst 0, 1) := by decide +kernel
theorem dX12_bears_22 : decode cX12_bears 22 = .ok (.istore 5, 2) := by decide +kernel
theorem dX12_bears_24 : decode cX12_bears 24 = .ok (.aload_n 0, 1) := by decide +kernel
theorem dX12_bears_25 : decode cX12_bears 25 = .ok (.getfield 7, 3) := by decide +kernel
theorem dX12_bears_28 : decode cX12_bears 28 = .ok (.bipush 19, 2) := by decide +kernel
theorem dX12_bears_30 : decode cX12_bears 30 = .ok (.iload 4, 2) := by decide +kernel
theorem dX12_bears_32 : decode cX12_bears 32 = .ok (.iadd, 1) := by decide +kernel
theorem dX12_bears_33 : decode cX12_bears 33 = .ok (.iaload, 1) := by decide +kernel
theorem dX12_bears_34 : decode cX12_bears 34 = .ok (.iconst (-1), 1) := by decide +kernel
theorem dX12_bears_35 : decode cX12_bears 35 = .ok (.if_icmp .ne 12, 3) := by decide +kernel
theorem dX12_bears_38 : decode cX12_bears 38 = .ok (.aload_n 0, 1) := by decide +kernel
theorem dX12_bears_39 : decode cX12_bears 39 = .ok (.iload 4, 2) := by decide +kernel
theorem dX12_bears_41 : decode cX12_bears 41 = .ok (.invokevirtual 152, 3) := by decide +kernel
theorem dX12_bears_44 : decode cX12_bears 44 = .ok (.goto 4, 3) := by decide +kernel
theorem dX12_bears_47 : decode cX12_bears 47 = .ok (.iconst 0, 1) := by decide +kernel
theorem dX12_bears_48 : decode cX12_bears 48 = .ok (.istore 6, 2) := by decide +kernel
theorem dX12_bears_50 : decode cX12_bears 50 = .ok (.iconst 0, 1) := by decide +kernel
theorem dX12_bears_51 : decode cX12_bears 51 = .ok (.istore 7, 2) := by decide +kernel
theorem dX12_bears_53 : decode cX12_bears 53 = .ok (.iload 7, 2) := by decide +kernel
theorem dX12_bears_55 : decode cX12_bears 55 = .ok (.aload_n 0, 1) := by decide +kernel
theorem dX12_bears_56 : decode cX12_bears 56 = .ok (.getfield 7, 3) := by decide +kernel
theorem dX12_bears_59 : decode cX12_bears 59 = .ok (.iconst 2, 1) := by decide +kernel
theorem dX12_bears_60 : decode cX12_bears 60 = .ok (.iaload, 1) := by decide +kernel
theorem dX12_bears_61 : decode cX12_bears 61 = .ok (.if_icmp .ge 69, 3) := by decide +kernel
theorem dX12_bears_64 : decode cX12_bears 64 = .ok (.iload 6, 2) := by decide +kernel
theorem dX12_bears_66 : decode cX12_bears 66 = .ok (.iload 7, 2) := by decide +kernel
theorem dX12_bears_68 : decode cX12_bears 68 = .ok (.invokestatic 202, 3) := by decide +kernel
theorem dX12_bears_71 : decode cX12_bears 71 = .ok (.ifCond .eq 53, 3) := by decide +kernel
theorem dX12_bears_74 : decode cX12_bears 74 = .ok (.iload 5, 2) := by decide +kernel
theorem dX12_bears_76 : decode cX12_bears 76 = .ok (.aload_n 0, 1) := by decide +kernel
theorem dX12_bears_77 : decode cX12_bears 77 = .ok (.getfield 7, 3) := by decide +kernel
theorem dX12_bears_80 : decode cX12_bears 80 = .ok (.iconst 3, 1) := by decide +kernel
theorem dX12_bears_81 : decode cX12_bears 81 = .ok (.iload 7, 2) := by decide +kernel
theorem dX12_bears_83 : decode cX12_bears 83 = .ok (.iadd, 1) := by decide +kernel
theorem dX12_bears_84 : decode cX12_bears 84 = .ok (.iaload, 1) := by decide +kernel
theorem dX12_bears_85 : decode cX12_bears 85 = .ok (.aload_n 0, 1) := by decide +kernel
theorem dX12_bears_86 : decode cX12_bears 86 = .ok (.getfield 16, 3) := by decide +kernel
theorem dX12_bears_89 : decode cX12_bears 89 = .ok (.iconst 0, 1) := by decide +kernel
theorem dX12_bears_90 : decode cX12_bears 90 = .ok (.iload 7, 2) := by decide +kernel
theorem dX12_bears_92 : decode cX12_bears 92 = .ok (.iadd, 1) := by decide +kernel
theorem dX12_bears_93 : decode cX12_bears 93 = .ok (.iaload, 1) := by decide +kernel
theorem dX12_bears_94 : decode cX12_bears 94 = .ok (.isub, 1) := by decide +kernel
theorem dX12_bears_95 : decode cX12_bears 95 = .ok (.iload_n 1, 1) := by decide +kernel
theorem dX12_bears_96 : decode cX12_bears 96 = .ok (.iload 7, 2) := by decide +kernel
theorem dX12_bears_98 : decode cX12_bears 98 = .ok (.invokestatic 202, 3) := by decide +kernel
theorem dX12_bears_101 : decode cX12_bears 101 = .ok (.ifCond .eq 7, 3) := by decide +kernel
theorem dX12_bears_104 : decode cX12_bears 104 = .ok (.iconst 0, 1) := by decide +kernel
theorem dX12_bears_105 : decode cX12_bears 105 = .ok (.goto 15, 3) := by decide +kernel
theorem dX12_bears_108 : decode cX12_bears 108 = .ok (.iload_n 2, 1) := by decide +kernel
theorem dX12_bears_109 : decode cX12_bears 109 = .ok (.aload_n 0, 1) := by decide +kernel
theorem dX12_bears_110 : decode cX12_bears 110 = .ok (.getfield 7, 3) := by decide +kernel
theorem dX12_bears_113 : decode cX12_bears 113 = .ok (.bipush 11, 2) := by decide +kernel
theorem dX12_bears_115 : decode cX12_bears 115 = .ok (.iload 7, 2) := by decide +kernel
theorem dX12_bears_117 : decode cX12_bears 117 = .ok (.iadd, 1) := by decide +kernel
theorem dX12_bears_118 : decode cX12_bears 118 = .ok (.iaload, 1) := by decide +kernel
theorem dX12_bears_119 : decode cX12_bears 119 = .ok (.imul, 1) := by decide +kernel
theorem dX12_bears_120 : decode cX12_bears 120 = .ok (.isub, 1) := by decide +kernel
theorem dX12_bears_121 : decode cX12_bears 121 = .ok (.iadd, 1) := by decide +kernel
theorem dX12_bears_122 : decode cX12_bears 122 = .ok (.istore 5, 2) := by decide +kernel
theorem dX12_bears_124 : decode cX12_bears 124 = .ok (.iinc 7 1, 3) := by decide +kernel
theorem dX12_bears_127 : decode cX12_bears 127 = .ok (.goto (-74), 3) := by decide +kernel
theorem dX12_bears_130 : decode cX12_bears 130 = .ok (.iload_n 3, 1) := by decide +kernel
theorem dX12_bears_131 : decode cX12_bears 131 = .ok (.ifCond .eq 12, 3) := by decide +kernel
theorem dX12_bears_134 : decode cX12_bears 134 = .ok (.iload 5, 2) := by decide +kernel
theorem dX12_bears_136 : decode cX12_bears 136 = .ok (.ifCond .lt 7, 3) := by decide +kernel
theorem dX12_bears_139 : decode cX12_bears 139 = .ok (.iconst 1, 1) := by decide +kernel
theorem dX12_bears_140 : decode cX12_bears 140 = .ok (.goto 4, 3) := by decide +kernel
theorem dX12_bears_143 : decode cX12_bears 143 = .ok (.iconst 0, 1) := by decide +kernel
theorem dX12_bears_144 : decode cX12_bears 144 = .ok (.istore_n 3, 1) := by decide +kernel
theorem dX12_bears_145 : decode cX12_bears 145 = .ok (.iinc 4 1, 3) := by decide +kernel
theorem dX12_bears_148 : decode cX12_bears 148 = .ok (.goto (-138), 3) := by decide +kernel
theorem dX12_bears_151 : decode cX12_bears 151 = .ok (.iload_n 3, 1) := by decide +kernel
theorem dX12_bears_152 : decode cX12_bears 152 = .ok (.ireturn, 1) := by decide +kernel
set_option maxRecDepth 20000 in
theorem ggX12_fewest_X12_bits : GoodIn wsX12_fewest wsX12_bits := goodIn_r _ [5] (by decide +kernel) (by decide +kernel)
set_option maxRecDepth 20000 in
theorem gX12_fewest_X12_bits : GoodIn wsX12_fewest (va_wsS RX12 206 yX12_bits wsX12_bits) := goodIn_app (goodIn_of _ (by decide +kernel)) ggX12_fewest_X12_bits
set_option maxRecDepth 20000 in
theorem ggX12_fewest_X12_bears : GoodIn wsX12_fewest wsX12_bears := goodIn_r _ [9, 1, 10, 11, 12, 13, 4, 14, 15, 16, 17, 18, 19, 20, 21, 22, 23, 24, 25, 26, 27, 28, 29, 30, 31, 32, 33, 34, 35, 36, 37, 38, 39, 40, 41, 42, 43, 44, 45, 46, 47, 48, 49, 50] (by decide +kernel) (by decide +kernel)
set_option maxRecDepth 20000 in
theorem gX12_fewest_X12_bears : GoodIn wsX12_fewest (wsV RX12 209 RX12 yX12_bears wsX12_bears) := goodIn_app (goodIn_of _ (by decide +kernel)) ggX12_fewest_X12_bears
theorem dX12_fewest_0 : decode cX12_fewest 0 = .ok (.iconst (-1), 1) := by decide +kernel
theorem dX12_fewest_1 : decode cX12_fewest 1 = .ok (.istore_n 1, 1) := by decide +kernel
theorem dX12_fewest_2 : decode cX12_fewest 2 = .ok (.iconst 0, 1) := by decide +kernel
theorem dX12_fewest_3 : decode cX12_fewest 3 = .ok (.istore_n 2, 1) := by decide +kernel
theorem dX12_fewest_4 : decode cX12_fewest 4 = .ok (.iload_n 2, 1) := by decide +kernel
theorem dX12_fewest_5 : decode cX12_fewest 5 = .ok (.iconst 1, 1) := by decide +kernel
theorem dX12_fewest_6 : decode cX12_fewest 6 = .ok (.aload_n 0, 1) := by decide +kernel
theorem dX12_fewest_7 : decode cX12_fewest 7 = .ok (.getfield 7, 3) := by decide +kernel
theorem dX12_fewest_10 : decode cX12_fewest 10 = .ok (.iconst 2, 1) := by decide +kernel
theorem dX12_fewest_11 : decode cX12_fewest 11 = .ok (.iaload, 1) := by decide +kernel
theorem dX12_fewest_12 : decode cX12_fewest 12 = .ok (.ishl, 1) := by decide +kernel
theorem dX12_fewest_13 : decode cX12_fewest 13 = .ok (.if_icmp .ge 49, 3) := by decide +kernel
theorem dX12_fewest_16 : decode cX12_fewest 16 = .ok (.iload_n 1, 1) := by decide +kernel
theorem dX12_fewest_17 : decode cX12_fewest 17 = .ok (.iconst (-1), 1) := by decide +kernel
theorem dX12_fewest_18 : decode cX12_fewest 18 = .ok (.if_icmp .eq 14, 3) := by decide +kernel
theorem dX12_fewest_21 : decode cX12_fewest 21 = .ok (.iload_n 2, 1) := by decide +kernel
theorem dX12_fewest_22 : decode cX12_fewest 22 = .ok (.invokestatic 206, 3) := by decide +kernel
theorem dX12_fewest_25 : decode cX12_fewest 25 = .ok (.iload_n 1, 1) := by decide +kernel
theorem dX12_fewest_26 : decode cX12_fewest 26 = .ok (.invokestatic 206, 3) := by decide +kernel
theorem dX12_fewest_29 : decode cX12_fewest 29 = .ok (.if_icmp .ge 7, 3) := by decide +kernel
theorem dX12_fewest_32 : decode cX12_fewest 32 = .ok (.iconst 1, 1) := by decide +kernel
theorem dX12_fewest_33 : decode cX12_fewest 33 = .ok (.goto 4, 3) := by decide +kernel
theorem dX12_fewest_36 : decode cX12_fewest 36 = .ok (.iconst 0, 1) := by decide +kernel
theorem dX12_fewest_37 : decode cX12_fewest 37 = .ok (.istore_n 3, 1) := by decide +kernel
theorem dX12_fewest_38 : decode cX12_fewest 38 = .ok (.iload_n 3, 1) := by decide +kernel
theorem dX12_fewest_39 : decode cX12_fewest 39 = .ok (.ifCond .eq 15, 3) := by decide +kernel
theorem dX12_fewest_42 : decode cX12_fewest 42 = .ok (.aload_n 0, 1) := by decide +kernel
theorem dX12_fewest_43 : decode cX12_fewest 43 = .ok (.iload_n 2, 1) := by decide +kernel
theorem dX12_fewest_44 : decode cX12_fewest 44 = .ok (.invokevirtual 209, 3) := by decide +kernel
theorem dX12_fewest_47 : decode cX12_fewest 47 = .ok (.ifCond .eq 7, 3) := by decide +kernel
theorem dX12_fewest_50 : decode cX12_fewest 50 = .ok (.iload_n 2, 1) := by decide +kernel
theorem dX12_fewest_51 : decode cX12_fewest 51 = .ok (.goto 4, 3) := by decide +kernel
theorem dX12_fewest_54 : decode cX12_fewest 54 = .ok (.iload_n 1, 1) := by decide +kernel
theorem dX12_fewest_55 : decode cX12_fewest 55 = .ok (.istore_n 1, 1) := by decide +kernel
theorem dX12_fewest_56 : decode cX12_fewest 56 = .ok (.iinc 2 1, 3) := by decide +kernel
theorem dX12_fewest_59 : decode cX12_fewest 59 = .ok (.goto (-55), 3) := by decide +kernel
theorem dX12_fewest_62 : decode cX12_fewest 62 = .ok (.iload_n 1, 1) := by decide +kernel
theorem dX12_fewest_63 : decode cX12_fewest 63 = .ok (.ireturn, 1) := by decide +kernel
set_option maxRecDepth 20000 in
theorem ggX12_held_X12_daysOfLent : GoodIn wsX12_held wsX12_daysOfLent := goodIn_r _ [8, 3, 1, 9, 10, 11, 7, 12, 16, 17, 18, 19, 20, 21, 22, 23, 24, 25, 26, 27, 28, 29, 30, 31, 32, 33, 34, 35, 36, 37, 38, 39, 40] (by decide +kernel) (by decide +kernel)
set_option maxRecDepth 20000 in
theorem gX12_held_X12_daysOfLent : GoodIn wsX12_held (wsV RX12 199 RX12 yX12_daysOfLent wsX12_daysOfLent) := goodIn_app (goodIn_of _ (by decide +kernel)) ggX12_held_X12_daysOfLent
set_option maxRecDepth 20000 in
theorem ggX12_held_X12_lesser : GoodIn wsX12_held wsX12_lesser := goodIn_r _ [15] (by decide +kernel) (by decide +kernel)
set_option maxRecDepth 20000 in
theorem gX12_held_X12_lesser : GoodIn wsX12_held (va_wsS RX12 129 yX12_lesser wsX12_lesser) := goodIn_app (goodIn_of _ (by decide +kernel)) ggX12_held_X12_lesser
theorem dX12_held_0 : decode cX12_held 0 = .ok (.iconst 0, 1) := by decide +kernel
theorem dX12_held_1 : decode cX12_held 1 = .ok (.istore_n 1, 1) := by decide +kernel
theorem dX12_held_2 : decode cX12_held 2 = .ok (.iconst 0, 1) := by decide +kernel
theorem dX12_held_3 : decode cX12_held 3 = .ok (.istore_n 2, 1) := by decide +kernel
theorem dX12_held_4 : decode cX12_held 4 = .ok (.iload_n 2, 1) := by decide +kernel
theorem dX12_held_5 : decode cX12_held 5 = .ok (.aload_n 0, 1) := by decide +kernel
theorem dX12_held_6 : decode cX12_held 6 = .ok (.getfield 7, 3) := by decide +kernel
theorem dX12_held_9 : decode cX12_held 9 = .ok (.iconst 2, 1) := by decide +kernel
theorem dX12_held_10 : decode cX12_held 10 = .ok (.iaload, 1) := by decide +kernel
theorem dX12_held_11 : decode cX12_held 11 = .ok (.if_icmp .ge 47, 3) := by decide +kernel
theorem dX12_held_14 : decode cX12_held 14 = .ok (.aload_n 0, 1) := by decide +kernel
theorem dX12_held_15 : decode cX12_held 15 = .ok (.getfield 48, 3) := by decide +kernel
theorem dX12_held_18 : decode cX12_held 18 = .ok (.iload_n 2, 1) := by decide +kernel
theorem dX12_held_19 : decode cX12_held 19 = .ok (.aload_n 0, 1) := by decide +kernel
theorem dX12_held_20 : decode cX12_held 20 = .ok (.getfield 7, 3) := by decide +kernel
theorem dX12_held_23 : decode cX12_held 23 = .ok (.iconst 3, 1) := by decide +kernel
theorem dX12_held_24 : decode cX12_held 24 = .ok (.iload_n 2, 1) := by decide +kernel
theorem dX12_held_25 : decode cX12_held 25 = .ok (.iadd, 1) := by decide +kernel
theorem dX12_held_26 : decode cX12_held 26 = .ok (.iaload, 1) := by decide +kernel
theorem dX12_held_27 : decode cX12_held 27 = .ok (.aload_n 0, 1) := by decide +kernel
theorem dX12_held_28 : decode cX12_held 28 = .ok (.getfield 16, 3) := by decide +kernel
theorem dX12_held_31 : decode cX12_held 31 = .ok (.iconst 0, 1) := by decide +kernel
theorem dX12_held_32 : decode cX12_held 32 = .ok (.iload_n 2, 1) := by decide +kernel
theorem dX12_held_33 : decode cX12_held 33 = .ok (.iadd, 1) := by decide +kernel
theorem dX12_held_34 : decode cX12_held 34 = .ok (.iaload, 1) := by decide +kernel
theorem dX12_held_35 : decode cX12_held 35 = .ok (.isub, 1) := by decide +kernel
theorem dX12_held_36 : decode cX12_held 36 = .ok (.aload_n 0, 1) := by decide +kernel
theorem dX12_held_37 : decode cX12_held 37 = .ok (.invokevirtual 199, 3) := by decide +kernel
theorem dX12_held_40 : decode cX12_held 40 = .ok (.aload_n 0, 1) := by decide +kernel
theorem dX12_held_41 : decode cX12_held 41 = .ok (.getfield 7, 3) := by decide +kernel
theorem dX12_held_44 : decode cX12_held 44 = .ok (.bipush 11, 2) := by decide +kernel
theorem dX12_held_46 : decode cX12_held 46 = .ok (.iload_n 2, 1) := by decide +kernel
theorem dX12_held_47 : decode cX12_held 47 = .ok (.iadd, 1) := by decide +kernel
theorem dX12_held_48 : decode cX12_held 48 = .ok (.iaload, 1) := by decide +kernel
theorem dX12_held_49 : decode cX12_held 49 = .ok (.imul, 1) := by decide +kernel
theorem dX12_held_50 : decode cX12_held 50 = .ok (.isub, 1) := by decide +kernel
theorem dX12_held_51 : decode cX12_held 51 = .ok (.iastore, 1) := by decide +kernel
theorem dX12_held_52 : decode cX12_held 52 = .ok (.iinc 2 1, 3) := by decide +kernel
theorem dX12_held_55 : decode cX12_held 55 = .ok (.goto (-51), 3) := by decide +kernel
theorem dX12_held_58 : decode cX12_held 58 = .ok (.aload_n 0, 1) := by decide +kernel
theorem dX12_held_59 : decode cX12_held 59 = .ok (.getfield 7, 3) := by decide +kernel
theorem dX12_held_62 : decode cX12_held 62 = .ok (.iconst 2, 1) := by decide +kernel
theorem dX12_held_63 : decode cX12_held 63 = .ok (.iaload, 1) := by decide +kernel
theorem dX12_held_64 : decode cX12_held 64 = .ok (.iconst 1, 1) := by decide +kernel
theorem dX12_held_65 : decode cX12_held 65 = .ok (.isub, 1) := by decide +kernel
theorem dX12_held_66 : decode cX12_held 66 = .ok (.istore_n 2, 1) := by decide +kernel
theorem dX12_held_67 : decode cX12_held 67 = .ok (.iload_n 2, 1) := by decide +kernel
theorem dX12_held_68 : decode cX12_held 68 = .ok (.ifCond .lt 140, 3) := by decide +kernel
theorem dX12_held_71 : decode cX12_held 71 = .ok (.aload_n 0, 1) := by decide +kernel
theorem dX12_held_72 : decode cX12_held 72 = .ok (.getfield 7, 3) := by decide +kernel
theorem dX12_held_75 : decode cX12_held 75 = .ok (.bipush 19, 2) := by decide +kernel
theorem dX12_held_77 : decode cX12_held 77 = .ok (.iload_n 2, 1) := by decide +kernel
theorem dX12_held_78 : decode cX12_held 78 = .ok (.iadd, 1) := by decide +kernel
theorem dX12_held_79 : decode cX12_held 79 = .ok (.iaload, 1) := by decide +kernel
theorem dX12_held_80 : decode cX12_held 80 = .ok (.istore_n 3, 1) := by decide +kernel
theorem dX12_held_81 : decode cX12_held 81 = .ok (.iload_n 3, 1) := by decide +kernel
theorem dX12_held_82 : decode cX12_held 82 = .ok (.iconst (-1), 1) := by decide +kernel
theorem dX12_held_83 : decode cX12_held 83 = .ok (.if_icmp .eq 119, 3) := by decide +kernel
theorem dX12_held_86 : decode cX12_held 86 = .ok (.aload_n 0, 1) := by decide +kernel
theorem dX12_held_87 : decode cX12_held 87 = .ok (.getfield 48, 3) := by decide +kernel
theorem dX12_held_90 : decode cX12_held 90 = .ok (.iload_n 2, 1) := by decide +kernel
theorem dX12_held_91 : decode cX12_held 91 = .ok (.iaload, 1) := by decide +kernel
theorem dX12_held_92 : decode cX12_held 92 = .ok (.ifCond .ge 31, 3) := by decide +kernel
theorem dX12_held_95 : decode cX12_held 95 = .ok (.aload_n 0, 1) := by decide +kernel
theorem dX12_held_96 : decode cX12_held 96 = .ok (.getfield 48, 3) := by decide +kernel
theorem dX12_held_99 : decode cX12_held 99 = .ok (.iload_n 3, 1) := by decide +kernel
theorem dX12_held_100 : decode cX12_held 100 = .ok (.iaload, 1) := by decide +kernel
theorem dX12_held_101 : decode cX12_held 101 = .ok (.ifCond .le 22, 3) := by decide +kernel
theorem dX12_held_104 : decode cX12_held 104 = .ok (.aload_n 0, 1) := by decide +kernel
theorem dX12_held_105 : decode cX12_held 105 = .ok (.getfield 48, 3) := by decide +kernel
theorem dX12_held_108 : decode cX12_held 108 = .ok (.iload_n 2, 1) := by decide +kernel
theorem dX12_held_109 : decode cX12_held 109 = .ok (.iaload, 1) := by decide +kernel
theorem dX12_held_110 : decode cX12_held 110 = .ok (.ineg, 1) := by decide +kernel
theorem dX12_held_111 : decode cX12_held 111 = .ok (.aload_n 0, 1) := by decide +kernel
theorem dX12_held_112 : decode cX12_held 112 = .ok (.getfield 48, 3) := by decide +kernel
theorem dX12_held_115 : decode cX12_held 115 = .ok (.iload_n 3, 1) := by decide +kernel
theorem dX12_held_116 : decode cX12_held 116 = .ok (.iaload, 1) := by decide +kernel
theorem dX12_held_117 : decode cX12_held 117 = .ok (.invokestatic 129, 3) := by decide +kernel
theorem dX12_held_120 : decode cX12_held 120 = .ok (.goto 4, 3) := by decide +kernel
theorem dX12_held_123 : decode cX12_held 123 = .ok (.iconst 0, 1) := by decide +kernel
theorem dX12_held_124 : decode cX12_held 124 = .ok (.istore 4, 2) := by decide +kernel
theorem dX12_held_126 : decode cX12_held 126 = .ok (.aload_n 0, 1) := by decide +kernel
theorem dX12_held_127 : decode cX12_held 127 = .ok (.getfield 48, 3) := by decide +kernel
theorem dX12_held_130 : decode cX12_held 130 = .ok (.iload_n 2, 1) := by decide +kernel
theorem dX12_held_131 : decode cX12_held 131 = .ok (.iaload, 1) := by decide +kernel
theorem dX12_held_132 : decode cX12_held 132 = .ok (.ifCond .le 31, 3) := by decide +kernel
theorem dX12_held_135 : decode cX12_held 135 = .ok (.aload_n 0, 1) := by decide +kernel
theorem dX12_held_136 : decode cX12_held 136 = .ok (.getfield 48, 3) := by decide +kernel
theorem dX12_held_139 : decode cX12_held 139 = .ok (.iload_n 3, 1) := by decide +kernel
theorem dX12_held_140 : decode cX12_held 140 = .ok (.iaload, 1) := by decide +kernel
theorem dX12_held_141 : decode cX12_held 141 = .ok (.ifCond .ge 22, 3) := by decide +kernel
theorem dX12_held_144 : decode cX12_held 144 = .ok (.aload_n 0, 1) := by decide +kernel
theorem dX12_held_145 : decode cX12_held 145 = .ok (.getfield 48, 3) := by decide +kernel
theorem dX12_held_148 : decode cX12_held 148 = .ok (.iload_n 2, 1) := by decide +kernel
theorem dX12_held_149 : decode cX12_held 149 = .ok (.iaload, 1) := by decide +kernel
theorem dX12_held_150 : decode cX12_held 150 = .ok (.aload_n 0, 1) := by decide +kernel
theorem dX12_held_151 : decode cX12_held 151 = .ok (.getfield 48, 3) := by decide +kernel
theorem dX12_held_154 : decode cX12_held 154 = .ok (.iload_n 3, 1) := by decide +kernel
theorem dX12_held_155 : decode cX12_held 155 = .ok (.iaload, 1) := by decide +kernel
theorem dX12_held_156 : decode cX12_held 156 = .ok (.ineg, 1) := by decide +kernel
theorem dX12_held_157 : decode cX12_held 157 = .ok (.invokestatic 129, 3) := by decide +kernel
theorem dX12_held_160 : decode cX12_held 160 = .ok (.goto 4, 3) := by decide +kernel
theorem dX12_held_163 : decode cX12_held 163 = .ok (.iconst 0, 1) := by decide +kernel
theorem dX12_held_164 : decode cX12_held 164 = .ok (.istore 5, 2) := by decide +kernel
theorem dX12_held_166 : decode cX12_held 166 = .ok (.aload_n 0, 1) := by decide +kernel
theorem dX12_held_167 : decode cX12_held 167 = .ok (.getfield 48, 3) := by decide +kernel
theorem dX12_held_170 : decode cX12_held 170 = .ok (.iload_n 3, 1) := by decide +kernel
theorem dX12_held_171 : decode cX12_held 171 = .ok (.dup2, 1) := by decide +kernel
theorem dX12_held_172 : decode cX12_held 172 = .ok (.iaload, 1) := by decide +kernel
theorem dX12_held_173 : decode cX12_held 173 = .ok (.iload 5, 2) := by decide +kernel
theorem dX12_held_175 : decode cX12_held 175 = .ok (.iload 4, 2) := by decide +kernel
theorem dX12_held_177 : decode cX12_held 177 = .ok (.isub, 1) := by decide +kernel
theorem dX12_held_178 : decode cX12_held 178 = .ok (.iadd, 1) := by decide +kernel
theorem dX12_held_179 : decode cX12_held 179 = .ok (.iastore, 1) := by decide +kernel
theorem dX12_held_180 : decode cX12_held 180 = .ok (.aload_n 0, 1) := by decide +kernel
theorem dX12_held_181 : decode cX12_held 181 = .ok (.getfield 48, 3) := by decide +kernel
theorem dX12_held_184 : decode cX12_held 184 = .ok (.iload_n 2, 1) := by decide +kernel
theorem dX12_held_185 : decode cX12_held 185 = .ok (.dup2, 1) := by decide +kernel
theorem dX12_held_186 : decode cX12_held 186 = .ok (.iaload, 1) := by decide +kernel
theorem dX12_held_187 : decode cX12_held 187 = .ok (.iload 4, 2) := by decide +kernel
theorem dX12_held_189 : decode cX12_held 189 = .ok (.iload 5, 2) := by decide +kernel
theorem dX12_held_191 : decode cX12_held 191 = .ok (.isub, 1) := by decide +kernel
theorem dX12_held_192 : decode cX12_held 192 = .ok (.iadd, 1) := by decide +kernel
theorem dX12_held_193 : decode cX12_held 193 = .ok (.iastore, 1) := by decide +kernel
theorem dX12_held_194 : decode cX12_held 194 = .ok (.iload_n 1, 1) := by decide +kernel
theorem dX12_held_195 : decode cX12_held 195 = .ok (.iload 4, 2) := by decide +kernel
theorem dX12_held_197 : decode cX12_held 197 = .ok (.iload 5, 2) := by decide +kernel
theorem dX12_held_199 : decode cX12_held 199 = .ok (.iadd, 1) := by decide +kernel
theorem dX12_held_200 : decode cX12_held 200 = .ok (.iadd, 1) := by decide +kernel
theorem dX12_held_201 : decode cX12_held 201 = .ok (.istore_n 1, 1) := by decide +kernel
theorem dX12_held_202 : decode cX12_held 202 = .ok (.iinc 2 (-1), 3) := by decide +kernel
theorem dX12_held_205 : decode cX12_held 205 = .ok (.goto (-138), 3) := by decide +kernel
theorem dX12_held_208 : decode cX12_held 208 = .ok (.iload_n 1, 1) := by decide +kernel
theorem dX12_held_209 : decode cX12_held 209 = .ok (.ireturn, 1) := by decide +kernel
set_option maxRecDepth 20000 in
theorem ggX12_breath_X12_in : GoodIn wsX12_breath wsX12_in := goodIn_r _ [8] (by decide +kernel) (by decide +kernel)
set_option maxRecDepth 20000 in
theorem gX12_breath_X12_in : GoodIn wsX12_breath (va_wsS RX12 65 yX12_in wsX12_in) := goodIn_app (goodIn_of _ (by decide +kernel)) ggX12_breath_X12_in
set_option maxRecDepth 20000 in
theorem ggX12_breath_X12_layAside : GoodIn wsX12_breath wsX12_layAside := goodIn_r _ [12, 13, 4, 14, 15, 7, 16, 33, 34, 35, 36, 37, 38, 39, 40, 41, 42, 43, 44, 45, 46, 47, 48, 49, 50, 51, 52, 53, 54, 55, 56, 57] (by decide +kernel) (by decide +kernel)
set_option maxRecDepth 20000 in
theorem gX12_breath_X12_layAside : GoodIn wsX12_breath (wsV RX12 192 RX12 yX12_layAside wsX12_layAside) := goodIn_app (goodIn_of _ (by decide +kernel)) ggX12_breath_X12_layAside
set_option maxRecDepth 20000 in
theorem ggX12_breath_X12_keptOf : GoodIn wsX12_breath wsX12_keptOf := goodIn_r _ [19] (by decide +kernel) (by decide +kernel)
set_option maxRecDepth 20000 in
theorem gX12_breath_X12_keptOf : GoodIn wsX12_breath (va_wsS RX12 141 yX12_keptOf wsX12_keptOf) := goodIn_app (goodIn_of _ (by decide +kernel)) ggX12_breath_X12_keptOf
set_option maxRecDepth 20000 in
theorem ggX12_breath_X12_hourGoes : GoodIn wsX12_breath wsX12_hourGoes := goodIn_r _ [23, 3, 24, 25, 26, 27, 7, 28, 29, 30, 31, 32, 33, 34, 35, 36, 37, 38, 39, 40, 41, 42, 43, 44, 45, 46, 47, 48, 49, 50, 51, 52, 53, 54, 55, 56, 57] (by decide +kernel) (by decide +kernel)
set_option maxRecDepth 20000 in
theorem gX12_breath_X12_hourGoes : GoodIn wsX12_breath (wsV RX12 173 RX12 yX12_hourGoes wsX12_hourGoes) := goodIn_app (goodIn_of _ (by decide +kernel)) ggX12_breath_X12_hourGoes
theorem dX12_breath_0 : decode cX12_breath 0 = .ok (.iload_n 1, 1) := by decide +kernel
theorem dX12_breath_1 : decode cX12_breath 1 = .ok (.i2l, 1) := by decide +kernel
theorem dX12_breath_2 : decode cX12_breath 2 = .ok (.lconst 0, 1) := by decide +kernel
theorem dX12_breath_3 : decode cX12_breath 3 = .ok (.ldc2_w 212, 3) := by decide +kernel
theorem dX12_breath_6 : decode cX12_breath 6 = .ok (.invokestatic 65, 3) := by decide +kernel
theorem dX12_breath_9 : decode cX12_breath 9 = .ok (.ifCond .ne 6, 3) := by decide +kernel
theorem dX12_breath_12 : decode cX12_breath 12 = .ok (.ldc 69, 2) := by decide +kernel
theorem dX12_breath_14 : decode cX12_breath 14 = .ok (.ireturn, 1) := by decide +kernel
theorem dX12_breath_15 : decode cX12_breath 15 = .ok (.aload_n 0, 1) := by decide +kernel
theorem dX12_breath_16 : decode cX12_breath 16 = .ok (.getfield 7, 3) := by decide +kernel
theorem dX12_breath_19 : decode cX12_breath 19 = .ok (.iconst 2, 1) := by decide +kernel
theorem dX12_breath_20 : decode cX12_breath 20 = .ok (.iaload, 1) := by decide +kernel
theorem dX12_breath_21 : decode cX12_breath 21 = .ok (.ifCond .ne 5, 3) := by decide +kernel
theorem dX12_breath_24 : decode cX12_breath 24 = .ok (.iconst (-1), 1) := by decide +kernel
theorem dX12_breath_25 : decode cX12_breath 25 = .ok (.ireturn, 1) := by decide +kernel
theorem dX12_breath_26 : decode cX12_breath 26 = .ok (.aload_n 0, 1) := by decide +kernel
theorem dX12_breath_27 : decode cX12_breath 27 = .ok (.invokevirtual 192, 3) := by decide +kernel
theorem dX12_breath_30 : decode cX12_breath 30 = .ok (.aload_n 0, 1) := by decide +kernel
theorem dX12_breath_31 : decode cX12_breath 31 = .ok (.getfield 19, 3) := by decide +kernel
theorem dX12_breath_34 : decode cX12_breath 34 = .ok (.bipush 17, 2) := by decide +kernel
theorem dX12_breath_36 : decode cX12_breath 36 = .ok (.iconst 0, 1) := by decide +kernel
theorem dX12_breath_37 : decode cX12_breath 37 = .ok (.iastore, 1) := by decide +kernel
theorem dX12_breath_38 : decode cX12_breath 38 = .ok (.iconst (-1), 1) := by decide +kernel
theorem dX12_breath_39 : decode cX12_breath 39 = .ok (.istore_n 2, 1) := by decide +kernel
theorem dX12_breath_40 : decode cX12_breath 40 = .ok (.iconst (-1), 1) := by decide +kernel
theorem dX12_breath_41 : decode cX12_breath 41 = .ok (.istore_n 3, 1) := by decide +kernel
theorem dX12_breath_42 : decode cX12_breath 42 = .ok (.iconst 0, 1) := by decide +kernel
theorem dX12_breath_43 : decode cX12_breath 43 = .ok (.istore 4, 2) := by decide +kernel
theorem dX12_breath_45 : decode cX12_breath 45 = .ok (.iconst 1, 1) := by decide +kernel
theorem dX12_breath_46 : decode cX12_breath 46 = .ok (.istore 5, 2) := by decide +kernel
theorem dX12_breath_48 : decode cX12_breath 48 = .ok (.iload 5, 2) := by decide +kernel
theorem dX12_breath_50 : decode cX12_breath 50 = .ok (.ifCond .eq 114, 3) := by decide +kernel
theorem dX12_breath_53 : decode cX12_breath 53 = .ok (.iconst 0, 1) := by decide +kernel
theorem dX12_breath_54 : decode cX12_breath 54 = .ok (.istore 6, 2) := by decide +kernel
theorem dX12_breath_56 : decode cX12_breath 56 = .ok (.iload 6, 2) := by decide +kernel
theorem dX12_breath_58 : decode cX12_breath 58 = .ok (.aload_n 0, 1) := by decide +kernel
theorem dX12_breath_59 : decode cX12_breath 59 = .ok (.getfield 7, 3) := by decide +kernel
theorem dX12_breath_62 : decode cX12_breath 62 = .ok (.iconst 2, 1) := by decide +kernel
theorem dX12_breath_63 : decode cX12_breath 63 = .ok (.iaload, 1) := by decide +kernel
theorem dX12_breath_64 : decode cX12_breath 64 = .ok (.if_icmp .ge 56, 3) := by decide +kernel
theorem dX12_breath_67 : decode cX12_breath 67 = .ok (.aload_n 0, 1) := by decide +kernel
theorem dX12_breath_68 : decode cX12_breath 68 = .ok (.getfield 19, 3) := by decide +kernel
theorem dX12_breath_71 : decode cX12_breath 71 = .ok (.iconst 0, 1) := by decide +kernel
theorem dX12_breath_72 : decode cX12_breath 72 = .ok (.iload 6, 2) := by decide +kernel
theorem dX12_breath_74 : decode cX12_breath 74 = .ok (.iadd, 1) := by decide +kernel
theorem dX12_breath_75 : decode cX12_breath 75 = .ok (.iaload, 1) := by decide +kernel
theorem dX12_breath_76 : decode cX12_breath 76 = .ok (.iload_n 2, 1) := by decide +kernel
theorem dX12_breath_77 : decode cX12_breath 77 = .ok (.if_icmp .le 8, 3) := by decide +kernel
theorem dX12_breath_80 : decode cX12_breath 80 = .ok (.iload 6, 2) := by decide +kernel
theorem dX12_breath_82 : decode cX12_breath 82 = .ok (.goto 4, 3) := by decide +kernel
theorem dX12_breath_85 : decode cX12_breath 85 = .ok (.iload_n 3, 1) := by decide +kernel
theorem dX12_breath_86 : decode cX12_breath 86 = .ok (.istore_n 3, 1) := by decide +kernel
theorem dX12_breath_87 : decode cX12_breath 87 = .ok (.aload_n 0, 1) := by decide +kernel
theorem dX12_breath_88 : decode cX12_breath 88 = .ok (.getfield 19, 3) := by decide +kernel
theorem dX12_breath_91 : decode cX12_breath 91 = .ok (.iconst 0, 1) := by decide +kernel
theorem dX12_breath_92 : decode cX12_breath 92 = .ok (.iload 6, 2) := by decide +kernel
theorem dX12_breath_94 : decode cX12_breath 94 = .ok (.iadd, 1) := by decide +kernel
theorem dX12_breath_95 : decode cX12_breath 95 = .ok (.iaload, 1) := by decide +kernel
theorem dX12_breath_96 : decode cX12_breath 96 = .ok (.iload_n 2, 1) := by decide +kernel
theorem dX12_breath_97 : decode cX12_breath 97 = .ok (.if_icmp .le 15, 3) := by decide +kernel
theorem dX12_breath_100 : decode cX12_breath 100 = .ok (.aload_n 0, 1) := by decide +kernel
theorem dX12_breath_101 : decode cX12_breath 101 = .ok (.getfield 19, 3) := by decide +kernel
theorem dX12_breath_104 : decode cX12_breath 104 = .ok (.iconst 0, 1) := by decide +kernel
theorem dX12_breath_105 : decode cX12_breath 105 = .ok (.iload 6, 2) := by decide +kernel
theorem dX12_breath_107 : decode cX12_breath 107 = .ok (.iadd, 1) := by decide +kernel
theorem dX12_breath_108 : decode cX12_breath 108 = .ok (.iaload, 1) := by decide +kernel
theorem dX12_breath_109 : decode cX12_breath 109 = .ok (.goto 4, 3) := by decide +kernel
theorem dX12_breath_112 : decode cX12_breath 112 = .ok (.iload_n 2, 1) := by decide +kernel
theorem dX12_breath_113 : decode cX12_breath 113 = .ok (.istore_n 2, 1) := by decide +kernel
theorem dX12_breath_114 : decode cX12_breath 114 = .ok (.iinc 6 1, 3) := by decide +kernel
theorem dX12_breath_117 : decode cX12_breath 117 = .ok (.goto (-61), 3) := by decide +kernel
theorem dX12_breath_120 : decode cX12_breath 120 = .ok (.aload_n 0, 1) := by decide +kernel
theorem dX12_breath_121 : decode cX12_breath 121 = .ok (.getfield 19, 3) := by decide +kernel
theorem dX12_breath_124 : decode cX12_breath 124 = .ok (.invokestatic 141, 3) := by decide +kernel
theorem dX12_breath_127 : decode cX12_breath 127 = .ok (.ifCond .le 15, 3) := by decide +kernel
theorem dX12_breath_130 : decode cX12_breath 130 = .ok (.iload 4, 2) := by decide +kernel
theorem dX12_breath_132 : decode cX12_breath 132 = .ok (.sipush 999, 3) := by decide +kernel
theorem dX12_breath_135 : decode cX12_breath 135 = .ok (.if_icmp .ge 7, 3) := by decide +kernel
theorem dX12_breath_138 : decode cX12_breath 138 = .ok (.iconst 1, 1) := by decide +kernel
theorem dX12_breath_139 : decode cX12_breath 139 = .ok (.goto 4, 3) := by decide +kernel
theorem dX12_breath_142 : decode cX12_breath 142 = .ok (.iconst 0, 1) := by decide +kernel
theorem dX12_breath_143 : decode cX12_breath 143 = .ok (.istore 5, 2) := by decide +kernel
theorem dX12_breath_145 : decode cX12_breath 145 = .ok (.iload 5, 2) := by decide +kernel
theorem dX12_breath_147 : decode cX12_breath 147 = .ok (.ifCond .eq (-99), 3) := by decide +kernel
theorem dX12_breath_150 : decode cX12_breath 150 = .ok (.aload_n 0, 1) := by decide +kernel
theorem dX12_breath_151 : decode cX12_breath 151 = .ok (.aload_n 0, 1) := by decide +kernel
theorem dX12_breath_152 : decode cX12_breath 152 = .ok (.getfield 19, 3) := by decide +kernel
theorem dX12_breath_155 : decode cX12_breath 155 = .ok (.invokevirtual 173, 3) := by decide +kernel
theorem dX12_breath_158 : decode cX12_breath 158 = .ok (.iinc 4 1, 3) := by decide +kernel
theorem dX12_breath_161 : decode cX12_breath 161 = .ok (.goto (-113), 3) := by decide +kernel
theorem dX12_breath_164 : decode cX12_breath 164 = .ok (.iload_n 1, 1) := by decide +kernel
theorem dX12_breath_165 : decode cX12_breath 165 = .ok (.tableswitch 54 0 2 #[27, 44, 52], 27) := by decide +kernel
theorem dX12_breath_192 : decode cX12_breath 192 = .ok (.aload_n 0, 1) := by decide +kernel
theorem dX12_breath_193 : decode cX12_breath 193 = .ok (.getfield 19, 3) := by decide +kernel
theorem dX12_breath_196 : decode cX12_breath 196 = .ok (.invokestatic 141, 3) := by decide +kernel
theorem dX12_breath_199 : decode cX12_breath 199 = .ok (.ifCond .le 7, 3) := by decide +kernel
theorem dX12_breath_202 : decode cX12_breath 202 = .ok (.iconst (-1), 1) := by decide +kernel
theorem dX12_breath_203 : decode cX12_breath 203 = .ok (.goto 5, 3) := by decide +kernel
theorem dX12_breath_206 : decode cX12_breath 206 = .ok (.iload 4, 2) := by decide +kernel
theorem dX12_breath_208 : decode cX12_breath 208 = .ok (.ireturn, 1) := by decide +kernel
theorem dX12_breath_209 : decode cX12_breath 209 = .ok (.aload_n 0, 1) := by decide +kernel
theorem dX12_breath_210 : decode cX12_breath 210 = .ok (.getfield 19, 3) := by decide +kernel
theorem dX12_breath_213 : decode cX12_breath 213 = .ok (.bipush 17, 2) := by decide +kernel
theorem dX12_breath_215 : decode cX12_breath 215 = .ok (.iaload, 1) := by decide +kernel
theorem dX12_breath_216 : decode cX12_breath 216 = .ok (.ireturn, 1) := by decide +kernel
theorem dX12_breath_217 : decode cX12_breath 217 = .ok (.iload_n 2, 1) := by decide +kernel
theorem dX12_breath_218 : decode cX12_breath 218 = .ok (.ireturn, 1) := by decide +kernel
theorem dX12_breath_219 : decode cX12_breath 219 = .ok (.iload_n 3, 1) := by decide +kernel
theorem dX12_breath_220 : decode cX12_breath 220 = .ok (.ireturn, 1) := by decide +kernel
set_option maxRecDepth 20000 in
theorem ggX12_isOrder_X12_isHouse : GoodIn wsX12_isOrder wsX12_isHouse := goodIn_r _ [6, 1, 7, 8, 5, 9, 13, 14, 15, 16, 17, 18, 19, 20, 21, 22, 23, 24, 25, 26, 27, 28, 29, 30, 31, 32, 33, 34, 35, 36, 37] (by decide +kernel) (by decide +kernel)
set_option maxRecDepth 20000 in
theorem gX12_isOrder_X12_isHouse : GoodIn wsX12_isOrder (wsV RX12 148 RX12 yX12_isHouse wsX12_isHouse) := goodIn_app (goodIn_of _ (by decide +kernel)) ggX12_isOrder_X12_isHouse
set_option maxRecDepth 20000 in
theorem ggX12_isOrder_X12_bits : GoodIn wsX12_isOrder wsX12_bits := goodIn_r _ [12] (by decide +kernel) (by decide +kernel)
set_option maxRecDepth 20000 in
theorem gX12_isOrder_X12_bits : GoodIn wsX12_isOrder (va_wsS RX12 206 yX12_bits wsX12_bits) := goodIn_app (goodIn_of _ (by decide +kernel)) ggX12_isOrder_X12_bits
theorem dX12_isOrder_0 : decode cX12_isOrder 0 = .ok (.iconst 0, 1) := by decide +kernel
theorem dX12_isOrder_1 : decode cX12_isOrder 1 = .ok (.istore_n 2, 1) := by decide +kernel
theorem dX12_isOrder_2 : decode cX12_isOrder 2 = .ok (.iload_n 1, 1) := by decide +kernel
theorem dX12_isOrder_3 : decode cX12_isOrder 3 = .ok (.istore_n 3, 1) := by decide +kernel
theorem dX12_isOrder_4 : decode cX12_isOrder 4 = .ok (.iconst 0, 1) := by decide +kernel
theorem dX12_isOrder_5 : decode cX12_isOrder 5 = .ok (.istore 4, 2) := by decide +kernel
theorem dX12_isOrder_7 : decode cX12_isOrder 7 = .ok (.iload 4, 2) := by decide +kernel
theorem dX12_isOrder_9 : decode cX12_isOrder 9 = .ok (.aload_n 0, 1) := by decide +kernel
theorem dX12_isOrder_10 : decode cX12_isOrder 10 = .ok (.getfield 7, 3) := by decide +kernel
theorem dX12_isOrder_13 : decode cX12_isOrder 13 = .ok (.iconst 2, 1) := by decide +kernel
theorem dX12_isOrder_14 : decode cX12_isOrder 14 = .ok (.iaload, 1) := by decide +kernel
theorem dX12_isOrder_15 : decode cX12_isOrder 15 = .ok (.if_icmp .ge 42, 3) := by decide +kernel
theorem dX12_isOrder_18 : decode cX12_isOrder 18 = .ok (.iload_n 3, 1) := by decide +kernel
theorem dX12_isOrder_19 : decode cX12_isOrder 19 = .ok (.bipush 10, 2) := by decide +kernel
theorem dX12_isOrder_21 : decode cX12_isOrder 21 = .ok (.irem, 1) := by decide +kernel
theorem dX12_isOrder_22 : decode cX12_isOrder 22 = .ok (.iconst 1, 1) := by decide +kernel
theorem dX12_isOrder_23 : decode cX12_isOrder 23 = .ok (.isub, 1) := by decide +kernel
theorem dX12_isOrder_24 : decode cX12_isOrder 24 = .ok (.istore 5, 2) := by decide +kernel
theorem dX12_isOrder_26 : decode cX12_isOrder 26 = .ok (.iload_n 3, 1) := by decide +kernel
theorem dX12_isOrder_27 : decode cX12_isOrder 27 = .ok (.bipush 10, 2) := by decide +kernel
theorem dX12_isOrder_29 : decode cX12_isOrder 29 = .ok (.idiv, 1) := by decide +kernel
theorem dX12_isOrder_30 : decode cX12_isOrder 30 = .ok (.istore_n 3, 1) := by decide +kernel
theorem dX12_isOrder_31 : decode cX12_isOrder 31 = .ok (.iload_n 2, 1) := by decide +kernel
theorem dX12_isOrder_32 : decode cX12_isOrder 32 = .ok (.aload_n 0, 1) := by decide +kernel
theorem dX12_isOrder_33 : decode cX12_isOrder 33 = .ok (.iload 5, 2) := by decide +kernel
theorem dX12_isOrder_35 : decode cX12_isOrder 35 = .ok (.invokevirtual 148, 3) := by decide +kernel
theorem dX12_isOrder_38 : decode cX12_isOrder 38 = .ok (.ifCond .eq 10, 3) := by decide +kernel
theorem dX12_isOrder_41 : decode cX12_isOrder 41 = .ok (.iconst 1, 1) := by decide +kernel
theorem dX12_isOrder_42 : decode cX12_isOrder 42 = .ok (.iload 5, 2) := by decide +kernel
theorem dX12_isOrder_44 : decode cX12_isOrder 44 = .ok (.ishl, 1) := by decide +kernel
theorem dX12_isOrder_45 : decode cX12_isOrder 45 = .ok (.goto 4, 3) := by decide +kernel
theorem dX12_isOrder_48 : decode cX12_isOrder 48 = .ok (.iconst 0, 1) := by decide +kernel
theorem dX12_isOrder_49 : decode cX12_isOrder 49 = .ok (.ior, 1) := by decide +kernel
theorem dX12_isOrder_50 : decode cX12_isOrder 50 = .ok (.istore_n 2, 1) := by decide +kernel
theorem dX12_isOrder_51 : decode cX12_isOrder 51 = .ok (.iinc 4 1, 3) := by decide +kernel
theorem dX12_isOrder_54 : decode cX12_isOrder 54 = .ok (.goto (-47), 3) := by decide +kernel
theorem dX12_isOrder_57 : decode cX12_isOrder 57 = .ok (.iload_n 1, 1) := by decide +kernel
theorem dX12_isOrder_58 : decode cX12_isOrder 58 = .ok (.ifCond .le 35, 3) := by decide +kernel
theorem dX12_isOrder_61 : decode cX12_isOrder 61 = .ok (.aload_n 0, 1) := by decide +kernel
theorem dX12_isOrder_62 : decode cX12_isOrder 62 = .ok (.getfield 7, 3) := by decide +kernel
theorem dX12_isOrder_65 : decode cX12_isOrder 65 = .ok (.iconst 2, 1) := by decide +kernel
theorem dX12_isOrder_66 : decode cX12_isOrder 66 = .ok (.iaload, 1) := by decide +kernel
theorem dX12_isOrder_67 : decode cX12_isOrder 67 = .ok (.bipush 7, 2) := by decide +kernel
theorem dX12_isOrder_69 : decode cX12_isOrder 69 = .ok (.if_icmp .ge 24, 3) := by decide +kernel
theorem dX12_isOrder_72 : decode cX12_isOrder 72 = .ok (.iload_n 3, 1) := by decide +kernel
theorem dX12_isOrder_73 : decode cX12_isOrder 73 = .ok (.ifCond .ne 20, 3) := by decide +kernel
theorem dX12_isOrder_76 : decode cX12_isOrder 76 = .ok (.iload_n 2, 1) := by decide +kernel
theorem dX12_isOrder_77 : decode cX12_isOrder 77 = .ok (.invokestatic 206, 3) := by decide +kernel
theorem dX12_isOrder_80 : decode cX12_isOrder 80 = .ok (.aload_n 0, 1) := by decide +kernel
theorem dX12_isOrder_81 : decode cX12_isOrder 81 = .ok (.getfield 7, 3) := by decide +kernel
theorem dX12_isOrder_84 : decode cX12_isOrder 84 = .ok (.iconst 2, 1) := by decide +kernel
theorem dX12_isOrder_85 : decode cX12_isOrder 85 = .ok (.iaload, 1) := by decide +kernel
theorem dX12_isOrder_86 : decode cX12_isOrder 86 = .ok (.if_icmp .ne 7, 3) := by decide +kernel
theorem dX12_isOrder_89 : decode cX12_isOrder 89 = .ok (.iconst 1, 1) := by decide +kernel
theorem dX12_isOrder_90 : decode cX12_isOrder 90 = .ok (.goto 4, 3) := by decide +kernel
theorem dX12_isOrder_93 : decode cX12_isOrder 93 = .ok (.iconst 0, 1) := by decide +kernel
theorem dX12_isOrder_94 : decode cX12_isOrder 94 = .ok (.ireturn, 1) := by decide +kernel
set_option maxRecDepth 20000 in
theorem ggX12_pulledBy_X12_has : GoodIn wsX12_pulledBy wsX12_has := goodIn_r _ [7] (by decide +kernel) (by decide +kernel)
set_option maxRecDepth 20000 in
theorem gX12_pulledBy_X12_has : GoodIn wsX12_pulledBy (va_wsS RX12 202 yX12_has wsX12_has) := goodIn_app (goodIn_of _ (by decide +kernel)) ggX12_pulledBy_X12_has
theorem dX12_pulledBy_0 : decode cX12_pulledBy 0 = .ok (.iconst 0, 1) := by decide +kernel
theorem dX12_pulledBy_1 : decode cX12_pulledBy 1 = .ok (.istore_n 2, 1) := by decide +kernel
theorem dX12_pulledBy_2 : decode cX12_pulledBy 2 = .ok (.iconst 0, 1) := by decide +kernel
theorem dX12_pulledBy_3 : decode cX12_pulledBy 3 = .ok (.istore_n 3, 1) := by decide +kernel
theorem dX12_pulledBy_4 : decode cX12_pulledBy 4 = .ok (.iload_n 3, 1) := by decide +kernel
theorem dX12_pulledBy_5 : decode cX12_pulledBy 5 = .ok (.aload_n 0, 1) := by decide +kernel
theorem dX12_pulledBy_6 : decode cX12_pulledBy 6 = .ok (.getfield 7, 3) := by decide +kernel
theorem dX12_pulledBy_9 : decode cX12_pulledBy 9 = .ok (.iconst 2, 1) := by decide +kernel
theorem dX12_pulledBy_10 : decode cX12_pulledBy 10 = .ok (.iaload, 1) := by decide +kernel
theorem dX12_pulledBy_11 : decode cX12_pulledBy 11 = .ok (.if_icmp .ge 44, 3) := by decide +kernel
theorem dX12_pulledBy_14 : decode cX12_pulledBy 14 = .ok (.aload_n 0, 1) := by decide +kernel
theorem dX12_pulledBy_15 : decode cX12_pulledBy 15 = .ok (.getfield 51, 3) := by decide +kernel
theorem dX12_pulledBy_18 : decode cX12_pulledBy 18 = .ok (.iload_n 3, 1) := by decide +kernel
theorem dX12_pulledBy_19 : decode cX12_pulledBy 19 = .ok (.aload_n 0, 1) := by decide +kernel
theorem dX12_pulledBy_20 : decode cX12_pulledBy 20 = .ok (.getfield 16, 3) := by decide +kernel
theorem dX12_pulledBy_23 : decode cX12_pulledBy 23 = .ok (.iconst 0, 1) := by decide +kernel
theorem dX12_pulledBy_24 : decode cX12_pulledBy 24 = .ok (.iload_n 3, 1) := by decide +kernel
theorem dX12_pulledBy_25 : decode cX12_pulledBy 25 = .ok (.iadd, 1) := by decide +kernel
theorem dX12_pulledBy_26 : decode cX12_pulledBy 26 = .ok (.iaload, 1) := by decide +kernel
theorem dX12_pulledBy_27 : decode cX12_pulledBy 27 = .ok (.iastore, 1) := by decide +kernel
theorem dX12_pulledBy_28 : decode cX12_pulledBy 28 = .ok (.aload_n 0, 1) := by decide +kernel
theorem dX12_pulledBy_29 : decode cX12_pulledBy 29 = .ok (.getfield 51, 3) := by decide +kernel
theorem dX12_pulledBy_32 : decode cX12_pulledBy 32 = .ok (.iload_n 3, 1) := by decide +kernel
theorem dX12_pulledBy_33 : decode cX12_pulledBy 33 = .ok (.iaload, 1) := by decide +kernel
theorem dX12_pulledBy_34 : decode cX12_pulledBy 34 = .ok (.iload_n 2, 1) := by decide +kernel
theorem dX12_pulledBy_35 : decode cX12_pulledBy 35 = .ok (.if_icmp .le 12, 3) := by decide +kernel
theorem dX12_pulledBy_38 : decode cX12_pulledBy 38 = .ok (.aload_n 0, 1) := by decide +kernel
theorem dX12_pulledBy_39 : decode cX12_pulledBy 39 = .ok (.getfield 51, 3) := by decide +kernel
theorem dX12_pulledBy_42 : decode cX12_pulledBy 42 = .ok (.iload_n 3, 1) := by decide +kernel
theorem dX12_pulledBy_43 : decode cX12_pulledBy 43 = .ok (.iaload, 1) := by decide +kernel
theorem dX12_pulledBy_44 : decode cX12_pulledBy 44 = .ok (.goto 4, 3) := by decide +kernel
theorem dX12_pulledBy_47 : decode cX12_pulledBy 47 = .ok (.iload_n 2, 1) := by decide +kernel
theorem dX12_pulledBy_48 : decode cX12_pulledBy 48 = .ok (.istore_n 2, 1) := by decide +kernel
theorem dX12_pulledBy_49 : decode cX12_pulledBy 49 = .ok (.iinc 3 1, 3) := by decide +kernel
theorem dX12_pulledBy_52 : decode cX12_pulledBy 52 = .ok (.goto (-48), 3) := by decide +kernel
theorem dX12_pulledBy_55 : decode cX12_pulledBy 55 = .ok (.iconst 1, 1) := by decide +kernel
theorem dX12_pulledBy_56 : decode cX12_pulledBy 56 = .ok (.istore_n 3, 1) := by decide +kernel
theorem dX12_pulledBy_57 : decode cX12_pulledBy 57 = .ok (.iconst 1, 1) := by decide +kernel
theorem dX12_pulledBy_58 : decode cX12_pulledBy 58 = .ok (.istore 4, 2) := by decide +kernel
theorem dX12_pulledBy_60 : decode cX12_pulledBy 60 = .ok (.iload 4, 2) := by decide +kernel
theorem dX12_pulledBy_62 : decode cX12_pulledBy 62 = .ok (.aload_n 0, 1) := by decide +kernel
theorem dX12_pulledBy_63 : decode cX12_pulledBy 63 = .ok (.getfield 7, 3) := by decide +kernel
theorem dX12_pulledBy_66 : decode cX12_pulledBy 66 = .ok (.iconst 2, 1) := by decide +kernel
theorem dX12_pulledBy_67 : decode cX12_pulledBy 67 = .ok (.iaload, 1) := by decide +kernel
theorem dX12_pulledBy_68 : decode cX12_pulledBy 68 = .ok (.if_icmp .ge 14, 3) := by decide +kernel
theorem dX12_pulledBy_71 : decode cX12_pulledBy 71 = .ok (.iload_n 3, 1) := by decide +kernel
theorem dX12_pulledBy_72 : decode cX12_pulledBy 72 = .ok (.bipush 10, 2) := by decide +kernel
theorem dX12_pulledBy_74 : decode cX12_pulledBy 74 = .ok (.imul, 1) := by decide +kernel
theorem dX12_pulledBy_75 : decode cX12_pulledBy 75 = .ok (.istore_n 3, 1) := by decide +kernel
theorem dX12_pulledBy_76 : decode cX12_pulledBy 76 = .ok (.iinc 4 1, 3) := by decide +kernel
theorem dX12_pulledBy_79 : decode cX12_pulledBy 79 = .ok (.goto (-19), 3) := by decide +kernel
theorem dX12_pulledBy_82 : decode cX12_pulledBy 82 = .ok (.iconst 0, 1) := by decide +kernel
theorem dX12_pulledBy_83 : decode cX12_pulledBy 83 = .ok (.istore 4, 2) := by decide +kernel
theorem dX12_pulledBy_85 : decode cX12_pulledBy 85 = .ok (.iload_n 3, 1) := by decide +kernel
theorem dX12_pulledBy_86 : decode cX12_pulledBy 86 = .ok (.ifCond .le 119, 3) := by decide +kernel
theorem dX12_pulledBy_89 : decode cX12_pulledBy 89 = .ok (.iload_n 1, 1) := by decide +kernel
theorem dX12_pulledBy_90 : decode cX12_pulledBy 90 = .ok (.iload_n 3, 1) := by decide +kernel
theorem dX12_pulledBy_91 : decode cX12_pulledBy 91 = .ok (.idiv, 1) := by decide +kernel
theorem dX12_pulledBy_92 : decode cX12_pulledBy 92 = .ok (.bipush 10, 2) := by decide +kernel
theorem dX12_pulledBy_94 : decode cX12_pulledBy 94 = .ok (.irem, 1) := by decide +kernel
theorem dX12_pulledBy_95 : decode cX12_pulledBy 95 = .ok (.iconst 1, 1) := by decide +kernel
theorem dX12_pulledBy_96 : decode cX12_pulledBy 96 = .ok (.isub, 1) := by decide +kernel
theorem dX12_pulledBy_97 : decode cX12_pulledBy 97 = .ok (.istore 5, 2) := by decide +kernel
theorem dX12_pulledBy_99 : decode cX12_pulledBy 99 = .ok (.iload 4, 2) := by decide +kernel
theorem dX12_pulledBy_101 : decode cX12_pulledBy 101 = .ok (.iconst 1, 1) := by decide +kernel
theorem dX12_pulledBy_102 : decode cX12_pulledBy 102 = .ok (.iload 5, 2) := by decide +kernel
theorem dX12_pulledBy_104 : decode cX12_pulledBy 104 = .ok (.ishl, 1) := by decide +kernel
theorem dX12_pulledBy_105 : decode cX12_pulledBy 105 = .ok (.ior, 1) := by decide +kernel
theorem dX12_pulledBy_106 : decode cX12_pulledBy 106 = .ok (.istore 4, 2) := by decide +kernel
theorem dX12_pulledBy_108 : decode cX12_pulledBy 108 = .ok (.iload 5, 2) := by decide +kernel
theorem dX12_pulledBy_110 : decode cX12_pulledBy 110 = .ok (.istore 6, 2) := by decide +kernel
theorem dX12_pulledBy_112 : decode cX12_pulledBy 112 = .ok (.iload 6, 2) := by decide +kernel
theorem dX12_pulledBy_114 : decode cX12_pulledBy 114 = .ok (.iconst (-1), 1) := by decide +kernel
theorem dX12_pulledBy_115 : decode cX12_pulledBy 115 = .ok (.if_icmp .eq 28, 3) := by decide +kernel
theorem dX12_pulledBy_118 : decode cX12_pulledBy 118 = .ok (.iload 4, 2) := by decide +kernel
theorem dX12_pulledBy_120 : decode cX12_pulledBy 120 = .ok (.iload 6, 2) := by decide +kernel
theorem dX12_pulledBy_122 : decode cX12_pulledBy 122 = .ok (.invokestatic 202, 3) := by decide +kernel
theorem dX12_pulledBy_125 : decode cX12_pulledBy 125 = .ok (.ifCond .eq 18, 3) := by decide +kernel
theorem dX12_pulledBy_128 : decode cX12_pulledBy 128 = .ok (.aload_n 0, 1) := by decide +kernel
theorem dX12_pulledBy_129 : decode cX12_pulledBy 129 = .ok (.getfield 7, 3) := by decide +kernel
theorem dX12_pulledBy_132 : decode cX12_pulledBy 132 = .ok (.bipush 19, 2) := by decide +kernel
theorem dX12_pulledBy_134 : decode cX12_pulledBy 134 = .ok (.iload 6, 2) := by decide +kernel
theorem dX12_pulledBy_136 : decode cX12_pulledBy 136 = .ok (.iadd, 1) := by decide +kernel
theorem dX12_pulledBy_137 : decode cX12_pulledBy 137 = .ok (.iaload, 1) := by decide +kernel
theorem dX12_pulledBy_138 : decode cX12_pulledBy 138 = .ok (.istore 6, 2) := by decide +kernel
theorem dX12_pulledBy_140 : decode cX12_pulledBy 140 = .ok (.goto (-28), 3) := by decide +kernel
theorem dX12_pulledBy_143 : decode cX12_pulledBy 143 = .ok (.iload 6, 2) := by decide +kernel
theorem dX12_pulledBy_145 : decode cX12_pulledBy 145 = .ok (.iconst (-1), 1) := by decide +kernel
theorem dX12_pulledBy_146 : decode cX12_pulledBy 146 = .ok (.if_icmp .eq 43, 3) := by decide +kernel
theorem dX12_pulledBy_149 : decode cX12_pulledBy 149 = .ok (.aload_n 0, 1) := by decide +kernel
theorem dX12_pulledBy_150 : decode cX12_pulledBy 150 = .ok (.getfield 51, 3) := by decide +kernel
theorem dX12_pulledBy_153 : decode cX12_pulledBy 153 = .ok (.iload 6, 2) := by decide +kernel
theorem dX12_pulledBy_155 : decode cX12_pulledBy 155 = .ok (.dup2, 1) := by decide +kernel
theorem dX12_pulledBy_156 : decode cX12_pulledBy 156 = .ok (.iaload, 1) := by decide +kernel
theorem dX12_pulledBy_157 : decode cX12_pulledBy 157 = .ok (.aload_n 0, 1) := by decide +kernel
theorem dX12_pulledBy_158 : decode cX12_pulledBy 158 = .ok (.getfield 51, 3) := by decide +kernel
theorem dX12_pulledBy_161 : decode cX12_pulledBy 161 = .ok (.iload 5, 2) := by decide +kernel
theorem dX12_pulledBy_163 : decode cX12_pulledBy 163 = .ok (.iaload, 1) := by decide +kernel
theorem dX12_pulledBy_164 : decode cX12_pulledBy 164 = .ok (.iadd, 1) := by decide +kernel
theorem dX12_pulledBy_165 : decode cX12_pulledBy 165 = .ok (.iastore, 1) := by decide +kernel
theorem dX12_pulledBy_166 : decode cX12_pulledBy 166 = .ok (.aload_n 0, 1) := by decide +kernel
theorem dX12_pulledBy_167 : decode cX12_pulledBy 167 = .ok (.getfield 51, 3) := by decide +kernel
theorem dX12_pulledBy_170 : decode cX12_pulledBy 170 = .ok (.iload 6, 2) := by decide +kernel
theorem dX12_pulledBy_172 : decode cX12_pulledBy 172 = .ok (.iaload, 1) := by decide +kernel
theorem dX12_pulledBy_173 : decode cX12_pulledBy 173 = .ok (.iload_n 2, 1) := by decide +kernel
theorem dX12_pulledBy_174 : decode cX12_pulledBy 174 = .ok (.if_icmp .le 13, 3) := by decide +kernel
theorem dX12_pulledBy_177 : decode cX12_pulledBy 177 = .ok (.aload_n 0, 1) := by decide +kernel
theorem dX12_pulledBy_178 : decode cX12_pulledBy 178 = .ok (.getfield 51, 3) := by decide +kernel
theorem dX12_pulledBy_181 : decode cX12_pulledBy 181 = .ok (.iload 6, 2) := by decide +kernel
theorem dX12_pulledBy_183 : decode cX12_pulledBy 183 = .ok (.iaload, 1) := by decide +kernel
theorem dX12_pulledBy_184 : decode cX12_pulledBy 184 = .ok (.goto 4, 3) := by decide +kernel
theorem dX12_pulledBy_187 : decode cX12_pulledBy 187 = .ok (.iload_n 2, 1) := by decide +kernel
theorem dX12_pulledBy_188 : decode cX12_pulledBy 188 = .ok (.istore_n 2, 1) := by decide +kernel
theorem dX12_pulledBy_189 : decode cX12_pulledBy 189 = .ok (.aload_n 0, 1) := by decide +kernel
theorem dX12_pulledBy_190 : decode cX12_pulledBy 190 = .ok (.getfield 51, 3) := by decide +kernel
theorem dX12_pulledBy_193 : decode cX12_pulledBy 193 = .ok (.iload 5, 2) := by decide +kernel
theorem dX12_pulledBy_195 : decode cX12_pulledBy 195 = .ok (.iconst 0, 1) := by decide +kernel
theorem dX12_pulledBy_196 : decode cX12_pulledBy 196 = .ok (.iastore, 1) := by decide +kernel
theorem dX12_pulledBy_197 : decode cX12_pulledBy 197 = .ok (.iload_n 3, 1) := by decide +kernel
theorem dX12_pulledBy_198 : decode cX12_pulledBy 198 = .ok (.bipush 10, 2) := by decide +kernel
theorem dX12_pulledBy_200 : decode cX12_pulledBy 200 = .ok (.idiv, 1) := by decide +kernel
theorem dX12_pulledBy_201 : decode cX12_pulledBy 201 = .ok (.istore_n 3, 1) := by decide +kernel
theorem dX12_pulledBy_202 : decode cX12_pulledBy 202 = .ok (.goto (-117), 3) := by decide +kernel
theorem dX12_pulledBy_205 : decode cX12_pulledBy 205 = .ok (.iload_n 2, 1) := by decide +kernel
theorem dX12_pulledBy_206 : decode cX12_pulledBy 206 = .ok (.ireturn, 1) := by decide +kernel
set_option maxRecDepth 20000 in
theorem ggX12_pulled_X12_isOrder : GoodIn wsX12_pulled wsX12_isOrder := goodIn_r _ [6, 7, 8, 9, 10, 5, 11, 12, 13, 14, 15, 16, 17, 27, 28, 29, 30, 31, 32, 33, 34, 35, 36, 37, 38, 39, 40, 41, 42, 43, 44, 45, 46, 47, 48, 49, 50, 51] (by decide +kernel) (by decide +kernel)
set_option maxRecDepth 20000 in
theorem gX12_pulled_X12_isOrder : GoodIn wsX12_pulled (wsV RX12 214 RX12 yX12_isOrder wsX12_isOrder) := goodIn_app (goodIn_of _ (by decide +kernel)) ggX12_pulled_X12_isOrder
set_option maxRecDepth 20000 in
theorem ggX12_pulled_X12_pulledBy : GoodIn wsX12_pulled wsX12_pulledBy := goodIn_r _ [21, 7, 22, 23, 24, 25, 5, 26, 27, 28, 29, 30, 31, 32, 33, 34, 35, 36, 37, 38, 39, 40, 41, 42, 43, 44, 45, 46, 47, 48, 49, 50, 51] (by decide +kernel) (by decide +kernel)
set_option maxRecDepth 20000 in
theorem gX12_pulled_X12_pulledBy : GoodIn wsX12_pulled (wsV RX12 217 RX12 yX12_pulledBy wsX12_pulledBy) := goodIn_app (goodIn_of _ (by decide +kernel)) ggX12_pulled_X12_pulledBy
theorem dX12_pulled_0 : decode cX12_pulled 0 = .ok (.aload_n 0, 1) := by decide +kernel
theorem dX12_pulled_1 : decode cX12_pulled 1 = .ok (.iload_n 1, 1) := by decide +kernel
theorem dX12_pulled_2 : decode cX12_pulled 2 = .ok (.invokevirtual 214, 3) := by decide +kernel
theorem dX12_pulled_5 : decode cX12_pulled 5 = .ok (.ifCond .eq 11, 3) := by decide +kernel
theorem dX12_pulled_8 : decode cX12_pulled 8 = .ok (.aload_n 0, 1) := by decide +kernel
theorem dX12_pulled_9 : decode cX12_pulled 9 = .ok (.iload_n 1, 1) := by decide +kernel
theorem dX12_pulled_10 : decode cX12_pulled 10 = .ok (.invokevirtual 217, 3) := by decide +kernel
theorem dX12_pulled_13 : decode cX12_pulled 13 = .ok (.goto 5, 3) := by decide +kernel
theorem dX12_pulled_16 : decode cX12_pulled 16 = .ok (.ldc 69, 2) := by decide +kernel
theorem dX12_pulled_18 : decode cX12_pulled 18 = .ok (.ireturn, 1) := by decide +kernel
set_option maxRecDepth 20000 in
theorem ggX12_best_X12_in : GoodIn wsX12_best wsX12_in := goodIn_r _ [7] (by decide +kernel) (by decide +kernel)
set_option maxRecDepth 20000 in
theorem gX12_best_X12_in : GoodIn wsX12_best (va_wsS RX12 65 yX12_in wsX12_in) := goodIn_app (goodIn_of _ (by decide +kernel)) ggX12_best_X12_in
set_option maxRecDepth 20000 in
theorem ggX12_best_X12_isOrder : GoodIn wsX12_best wsX12_isOrder := goodIn_r _ [11, 2, 12, 13, 14, 6, 15, 4, 5, 7, 16, 17, 18, 28, 29, 30, 31, 32, 33, 34, 35, 36, 37, 38, 39, 40, 41, 42, 43, 44, 45, 46, 47, 48, 49, 50, 51, 52] (by decide +kernel) (by decide +kernel)
set_option maxRecDepth 20000 in
theorem gX12_best_X12_isOrder : GoodIn wsX12_best (wsV RX12 214 RX12 yX12_isOrder wsX12_isOrder) := goodIn_app (goodIn_of _ (by decide +kernel)) ggX12_best_X12_isOrder
set_option maxRecDepth 20000 in
theorem ggX12_best_X12_pulledBy : GoodIn wsX12_best wsX12_pulledBy := goodIn_r _ [22, 2, 23, 24, 25, 26, 6, 27, 28, 29, 30, 31, 32, 33, 34, 35, 36, 37, 38, 39, 40, 41, 42, 43, 44, 45, 46, 47, 48, 49, 50, 51, 52] (by decide +kernel) (by decide +kernel)
set_option maxRecDepth 20000 in
theorem gX12_best_X12_pulledBy : GoodIn wsX12_best (wsV RX12 217 RX12 yX12_pulledBy wsX12_pulledBy) := goodIn_app (goodIn_of _ (by decide +kernel)) ggX12_best_X12_pulledBy
theorem dX12_best_0 : decode cX12_best 0 = .ok (.iload_n 1, 1) := by decide +kernel
theorem dX12_best_1 : decode cX12_best 1 = .ok (.i2l, 1) := by decide +kernel
theorem dX12_best_2 : decode cX12_best 2 = .ok (.lconst 0, 1) := by decide +kernel
theorem dX12_best_3 : decode cX12_best 3 = .ok (.lconst 1, 1) := by decide +kernel
theorem dX12_best_4 : decode cX12_best 4 = .ok (.invokestatic 65, 3) := by decide +kernel
theorem dX12_best_7 : decode cX12_best 7 = .ok (.ifCond .ne 6, 3) := by decide +kernel
theorem dX12_best_10 : decode cX12_best 10 = .ok (.ldc 69, 2) := by decide +kernel
theorem dX12_best_12 : decode cX12_best 12 = .ok (.ireturn, 1) := by decide +kernel
theorem dX12_best_13 : decode cX12_best 13 = .ok (.aload_n 0, 1) := by decide +kernel
theorem dX12_best_14 : decode cX12_best 14 = .ok (.getfield 7, 3) := by decide +kernel
theorem dX12_best_17 : decode cX12_best 17 = .ok (.iconst 2, 1) := by decide +kernel
theorem dX12_best_18 : decode cX12_best 18 = .ok (.iaload, 1) := by decide +kernel
theorem dX12_best_19 : decode cX12_best 19 = .ok (.istore_n 2, 1) := by decide +kernel
theorem dX12_best_20 : decode cX12_best 20 = .ok (.iconst (-1), 1) := by decide +kernel
theorem dX12_best_21 : decode cX12_best 21 = .ok (.istore_n 3, 1) := by decide +kernel
theorem dX12_best_22 : decode cX12_best 22 = .ok (.ldc 220, 2) := by decide +kernel
theorem dX12_best_24 : decode cX12_best 24 = .ok (.istore 4, 2) := by decide +kernel
theorem dX12_best_26 : decode cX12_best 26 = .ok (.iload_n 2, 1) := by decide +kernel
theorem dX12_best_27 : decode cX12_best 27 = .ok (.ifCond .eq 9, 3) := by decide +kernel
theorem dX12_best_30 : decode cX12_best 30 = .ok (.iload_n 2, 1) := by decide +kernel
theorem dX12_best_31 : decode cX12_best 31 = .ok (.bipush 6, 2) := by decide +kernel
theorem dX12_best_33 : decode cX12_best 33 = .ok (.if_icmp .le 7, 3) := by decide +kernel
theorem dX12_best_36 : decode cX12_best 36 = .ok (.iconst 0, 1) := by decide +kernel
theorem dX12_best_37 : decode cX12_best 37 = .ok (.goto 4, 3) := by decide +kernel
theorem dX12_best_40 : decode cX12_best 40 = .ok (.iconst 1, 1) := by decide +kernel
theorem dX12_best_41 : decode cX12_best 41 = .ok (.istore 5, 2) := by decide +kernel
theorem dX12_best_43 : decode cX12_best 43 = .ok (.iconst 0, 1) := by decide +kernel
theorem dX12_best_44 : decode cX12_best 44 = .ok (.istore 6, 2) := by decide +kernel
theorem dX12_best_46 : decode cX12_best 46 = .ok (.iload 6, 2) := by decide +kernel
theorem dX12_best_48 : decode cX12_best 48 = .ok (.iload_n 2, 1) := by decide +kernel
theorem dX12_best_49 : decode cX12_best 49 = .ok (.if_icmp .ge 15, 3) := by decide +kernel
theorem dX12_best_52 : decode cX12_best 52 = .ok (.iload 5, 2) := by decide +kernel
theorem dX12_best_54 : decode cX12_best 54 = .ok (.iload_n 2, 1) := by decide +kernel
theorem dX12_best_55 : decode cX12_best 55 = .ok (.imul, 1) := by decide +kernel
theorem dX12_best_56 : decode cX12_best 56 = .ok (.istore 5, 2) := by decide +kernel
theorem dX12_best_58 : decode cX12_best 58 = .ok (.iinc 6 1, 3) := by decide +kernel
theorem dX12_best_61 : decode cX12_best 61 = .ok (.goto (-15), 3) := by decide +kernel
theorem dX12_best_64 : decode cX12_best 64 = .ok (.iconst 0, 1) := by decide +kernel
theorem dX12_best_65 : decode cX12_best 65 = .ok (.istore 6, 2) := by decide +kernel
theorem dX12_best_67 : decode cX12_best 67 = .ok (.iload 6, 2) := by decide +kernel
theorem dX12_best_69 : decode cX12_best 69 = .ok (.iload 5, 2) := by decide +kernel
theorem dX12_best_71 : decode cX12_best 71 = .ok (.if_icmp .ge 108, 3) := by decide +kernel
theorem dX12_best_74 : decode cX12_best 74 = .ok (.iconst 0, 1) := by decide +kernel
theorem dX12_best_75 : decode cX12_best 75 = .ok (.istore 7, 2) := by decide +kernel
theorem dX12_best_77 : decode cX12_best 77 = .ok (.iload 6, 2) := by decide +kernel
theorem dX12_best_79 : decode cX12_best 79 = .ok (.istore 8, 2) := by decide +kernel
theorem dX12_best_81 : decode cX12_best 81 = .ok (.iconst 1, 1) := by decide +kernel
theorem dX12_best_82 : decode cX12_best 82 = .ok (.istore 9, 2) := by decide +kernel
theorem dX12_best_84 : decode cX12_best 84 = .ok (.iconst 0, 1) := by decide +kernel
theorem dX12_best_85 : decode cX12_best 85 = .ok (.istore 10, 2) := by decide +kernel
theorem dX12_best_87 : decode cX12_best 87 = .ok (.iload 10, 2) := by decide +kernel
theorem dX12_best_89 : decode cX12_best 89 = .ok (.iload_n 2, 1) := by decide +kernel
theorem dX12_best_90 : decode cX12_best 90 = .ok (.if_icmp .ge 36, 3) := by decide +kernel
theorem dX12_best_93 : decode cX12_best 93 = .ok (.iload 7, 2) := by decide +kernel
theorem dX12_best_95 : decode cX12_best 95 = .ok (.iload 9, 2) := by decide +kernel
theorem dX12_best_97 : decode cX12_best 97 = .ok (.iload 8, 2) := by decide +kernel
theorem dX12_best_99 : decode cX12_best 99 = .ok (.iload_n 2, 1) := by decide +kernel
theorem dX12_best_100 : decode cX12_best 100 = .ok (.irem, 1) := by decide +kernel
theorem dX12_best_101 : decode cX12_best 101 = .ok (.iconst 1, 1) := by decide +kernel
theorem dX12_best_102 : decode cX12_best 102 = .ok (.iadd, 1) := by decide +kernel
theorem dX12_best_103 : decode cX12_best 103 = .ok (.imul, 1) := by decide +kernel
theorem dX12_best_104 : decode cX12_best 104 = .ok (.iadd, 1) := by decide +kernel
theorem dX12_best_105 : decode cX12_best 105 = .ok (.istore 7, 2) := by decide +kernel
theorem dX12_best_107 : decode cX12_best 107 = .ok (.iload 8, 2) := by decide +kernel
theorem dX12_best_109 : decode cX12_best 109 = .ok (.iload_n 2, 1) := by decide +kernel
theorem dX12_best_110 : decode cX12_best 110 = .ok (.idiv, 1) := by decide +kernel
theorem dX12_best_111 : decode cX12_best 111 = .ok (.istore 8, 2) := by decide +kernel
theorem dX12_best_113 : decode cX12_best 113 = .ok (.iload 9, 2) := by decide +kernel
theorem dX12_best_115 : decode cX12_best 115 = .ok (.bipush 10, 2) := by decide +kernel
theorem dX12_best_117 : decode cX12_best 117 = .ok (.imul, 1) := by decide +kernel
theorem dX12_best_118 : decode cX12_best 118 = .ok (.istore 9, 2) := by decide +kernel
theorem dX12_best_120 : decode cX12_best 120 = .ok (.iinc 10 1, 3) := by decide +kernel
theorem dX12_best_123 : decode cX12_best 123 = .ok (.goto (-36), 3) := by decide +kernel
theorem dX12_best_126 : decode cX12_best 126 = .ok (.aload_n 0, 1) := by decide +kernel
theorem dX12_best_127 : decode cX12_best 127 = .ok (.iload 7, 2) := by decide +kernel
theorem dX12_best_129 : decode cX12_best 129 = .ok (.invokevirtual 214, 3) := by decide +kernel
theorem dX12_best_132 : decode cX12_best 132 = .ok (.ifCond .eq 41, 3) := by decide +kernel
theorem dX12_best_135 : decode cX12_best 135 = .ok (.aload_n 0, 1) := by decide +kernel
theorem dX12_best_136 : decode cX12_best 136 = .ok (.iload 7, 2) := by decide +kernel
theorem dX12_best_138 : decode cX12_best 138 = .ok (.invokevirtual 217, 3) := by decide +kernel
theorem dX12_best_141 : decode cX12_best 141 = .ok (.istore 10, 2) := by decide +kernel
theorem dX12_best_143 : decode cX12_best 143 = .ok (.iload 10, 2) := by decide +kernel
theorem dX12_best_145 : decode cX12_best 145 = .ok (.iload 4, 2) := by decide +kernel
theorem dX12_best_147 : decode cX12_best 147 = .ok (.if_icmp .ge 8, 3) := by decide +kernel
theorem dX12_best_150 : decode cX12_best 150 = .ok (.iload 7, 2) := by decide +kernel
theorem dX12_best_152 : decode cX12_best 152 = .ok (.goto 4, 3) := by decide +kernel
theorem dX12_best_155 : decode cX12_best 155 = .ok (.iload_n 3, 1) := by decide +kernel
theorem dX12_best_156 : decode cX12_best 156 = .ok (.istore_n 3, 1) := by decide +kernel
theorem dX12_best_157 : decode cX12_best 157 = .ok (.iload 10, 2) := by decide +kernel
theorem dX12_best_159 : decode cX12_best 159 = .ok (.iload 4, 2) := by decide +kernel
theorem dX12_best_161 : decode cX12_best 161 = .ok (.if_icmp .ge 8, 3) := by decide +kernel
theorem dX12_best_164 : decode cX12_best 164 = .ok (.iload 10, 2) := by decide +kernel
theorem dX12_best_166 : decode cX12_best 166 = .ok (.goto 5, 3) := by decide +kernel
theorem dX12_best_169 : decode cX12_best 169 = .ok (.iload 4, 2) := by decide +kernel
theorem dX12_best_171 : decode cX12_best 171 = .ok (.istore 4, 2) := by decide +kernel
theorem dX12_best_173 : decode cX12_best 173 = .ok (.iinc 6 1, 3) := by decide +kernel
theorem dX12_best_176 : decode cX12_best 176 = .ok (.goto (-109), 3) := by decide +kernel
theorem dX12_best_179 : decode cX12_best 179 = .ok (.iload_n 3, 1) := by decide +kernel
theorem dX12_best_180 : decode cX12_best 180 = .ok (.iconst (-1), 1) := by decide +kernel
theorem dX12_best_181 : decode cX12_best 181 = .ok (.if_icmp .eq 7, 3) := by decide +kernel
theorem dX12_best_184 : decode cX12_best 184 = .ok (.iload_n 1, 1) := by decide +kernel
theorem dX12_best_185 : decode cX12_best 185 = .ok (.ifCond .ne 7, 3) := by decide +kernel
theorem dX12_best_188 : decode cX12_best 188 = .ok (.iload_n 3, 1) := by decide +kernel
theorem dX12_best_189 : decode cX12_best 189 = .ok (.goto 5, 3) := by decide +kernel
theorem dX12_best_192 : decode cX12_best 192 = .ok (.iload 4, 2) := by decide +kernel
theorem dX12_best_194 : decode cX12_best 194 = .ok (.ireturn, 1) := by decide +kernel
set_option maxRecDepth 20000 in
theorem ggX12_dry_X12_in : GoodIn wsX12_dry wsX12_in := goodIn_r _ [8] (by decide +kernel) (by decide +kernel)
set_option maxRecDepth 20000 in
theorem gX12_dry_X12_in : GoodIn wsX12_dry (va_wsS RX12 65 yX12_in wsX12_in) := goodIn_app (goodIn_of _ (by decide +kernel)) ggX12_dry_X12_in
theorem dX12_dry_0 : decode cX12_dry 0 = .ok (.iload_n 1, 1) := by decide +kernel
theorem dX12_dry_1 : decode cX12_dry 1 = .ok (.i2l, 1) := by decide +kernel
theorem dX12_dry_2 : decode cX12_dry 2 = .ok (.lconst 0, 1) := by decide +kernel
theorem dX12_dry_3 : decode cX12_dry 3 = .ok (.ldc2_w 171, 3) := by decide +kernel
theorem dX12_dry_6 : decode cX12_dry 6 = .ok (.invokestatic 65, 3) := by decide +kernel
theorem dX12_dry_9 : decode cX12_dry 9 = .ok (.ifCond .eq 15, 3) := by decide +kernel
theorem dX12_dry_12 : decode cX12_dry 12 = .ok (.iload_n 2, 1) := by decide +kernel
theorem dX12_dry_13 : decode cX12_dry 13 = .ok (.i2l, 1) := by decide +kernel
theorem dX12_dry_14 : decode cX12_dry 14 = .ok (.lconst 0, 1) := by decide +kernel
theorem dX12_dry_15 : decode cX12_dry 15 = .ok (.ldc2_w 221, 3) := by decide +kernel
theorem dX12_dry_18 : decode cX12_dry 18 = .ok (.invokestatic 65, 3) := by decide +kernel
theorem dX12_dry_21 : decode cX12_dry 21 = .ok (.ifCond .ne 6, 3) := by decide +kernel
theorem dX12_dry_24 : decode cX12_dry 24 = .ok (.ldc 69, 2) := by decide +kernel
theorem dX12_dry_26 : decode cX12_dry 26 = .ok (.ireturn, 1) := by decide +kernel
theorem dX12_dry_27 : decode cX12_dry 27 = .ok (.ldc2_w 223, 3) := by decide +kernel
theorem dX12_dry_30 : decode cX12_dry 30 = .ok (.lstore_n 3, 1) := by decide +kernel
theorem dX12_dry_31 : decode cX12_dry 31 = .ok (.iconst 0, 1) := by decide +kernel
theorem dX12_dry_32 : decode cX12_dry 32 = .ok (.istore 5, 2) := by decide +kernel
theorem dX12_dry_34 : decode cX12_dry 34 = .ok (.iload 5, 2) := by decide +kernel
theorem dX12_dry_36 : decode cX12_dry 36 = .ok (.iload_n 1, 1) := by decide +kernel
theorem dX12_dry_37 : decode cX12_dry 37 = .ok (.if_icmp .ge 18, 3) := by decide +kernel
theorem dX12_dry_40 : decode cX12_dry 40 = .ok (.lload_n 3, 1) := by decide +kernel
theorem dX12_dry_41 : decode cX12_dry 41 = .ok (.iload_n 2, 1) := by decide +kernel
theorem dX12_dry_42 : decode cX12_dry 42 = .ok (.i2l, 1) := by decide +kernel
theorem dX12_dry_43 : decode cX12_dry 43 = .ok (.lmul, 1) := by decide +kernel
theorem dX12_dry_44 : decode cX12_dry 44 = .ok (.ldc2_w 221, 3) := by decide +kernel
theorem dX12_dry_47 : decode cX12_dry 47 = .ok (.ldiv, 1) := by decide +kernel
theorem dX12_dry_48 : decode cX12_dry 48 = .ok (.lstore_n 3, 1) := by decide +kernel
theorem dX12_dry_49 : decode cX12_dry 49 = .ok (.iinc 5 1, 3) := by decide +kernel
theorem dX12_dry_52 : decode cX12_dry 52 = .ok (.goto (-18), 3) := by decide +kernel
theorem dX12_dry_55 : decode cX12_dry 55 = .ok (.lload_n 3, 1) := by decide +kernel
theorem dX12_dry_56 : decode cX12_dry 56 = .ok (.l2i, 1) := by decide +kernel
theorem dX12_dry_57 : decode cX12_dry 57 = .ok (.ireturn, 1) := by decide +kernel
set_option maxRecDepth 20000 in
theorem ggX12_see_X12_isHouse : GoodIn wsX12_see wsX12_isHouse := goodIn_r _ [9, 10, 11, 12, 8, 13, 14, 15, 16, 17, 18, 19, 20, 21, 22, 23, 24, 25, 26, 27, 28, 29, 30, 31, 32, 33, 34, 35, 36, 37, 38] (by decide +kernel) (by decide +kernel)
set_option maxRecDepth 20000 in
theorem gX12_see_X12_isHouse : GoodIn wsX12_see (wsV RX12 148 RX12 yX12_isHouse wsX12_isHouse) := goodIn_app (goodIn_of _ (by decide +kernel)) ggX12_see_X12_isHouse
theorem dX12_see_0 : decode cX12_see 0 = .ok (.aload_n 0, 1) := by decide +kernel
theorem dX12_see_1 : decode cX12_see 1 = .ok (.iload_n 1, 1) := by decide +kernel
theorem dX12_see_2 : decode cX12_see 2 = .ok (.invokevirtual 148, 3) := by decide +kernel
theorem dX12_see_5 : decode cX12_see 5 = .ok (.ifCond .ne 6, 3) := by decide +kernel
theorem dX12_see_8 : decode cX12_see 8 = .ok (.ldc 151, 2) := by decide +kernel
theorem dX12_see_10 : decode cX12_see 10 = .ok (.ireturn, 1) := by decide +kernel
theorem dX12_see_11 : decode cX12_see 11 = .ok (.aload_n 0, 1) := by decide +kernel
theorem dX12_see_12 : decode cX12_see 12 = .ok (.getfield 57, 3) := by decide +kernel
theorem dX12_see_15 : decode cX12_see 15 = .ok (.bipush 6, 2) := by decide +kernel
theorem dX12_see_17 : decode cX12_see 17 = .ok (.if_icmp .ne 6, 3) := by decide +kernel
theorem dX12_see_20 : decode cX12_see 20 = .ok (.ldc 73, 2) := by decide +kernel
theorem dX12_see_22 : decode cX12_see 22 = .ok (.ireturn, 1) := by decide +kernel
theorem dX12_see_23 : decode cX12_see 23 = .ok (.aload_n 0, 1) := by decide +kernel
theorem dX12_see_24 : decode cX12_see 24 = .ok (.getfield 39, 3) := by decide +kernel
theorem dX12_see_27 : decode cX12_see 27 = .ok (.iconst 2, 1) := by decide +kernel
theorem dX12_see_28 : decode cX12_see 28 = .ok (.aload_n 0, 1) := by decide +kernel
theorem dX12_see_29 : decode cX12_see 29 = .ok (.getfield 57, 3) := by decide +kernel
theorem dX12_see_32 : decode cX12_see 32 = .ok (.imul, 1) := by decide +kernel
theorem dX12_see_33 : decode cX12_see 33 = .ok (.iload_n 1, 1) := by decide +kernel
theorem dX12_see_34 : decode cX12_see 34 = .ok (.iastore, 1) := by decide +kernel
theorem dX12_see_35 : decode cX12_see 35 = .ok (.aload_n 0, 1) := by decide +kernel
theorem dX12_see_36 : decode cX12_see 36 = .ok (.getfield 39, 3) := by decide +kernel
theorem dX12_see_39 : decode cX12_see 39 = .ok (.iconst 2, 1) := by decide +kernel
theorem dX12_see_40 : decode cX12_see 40 = .ok (.aload_n 0, 1) := by decide +kernel
theorem dX12_see_41 : decode cX12_see 41 = .ok (.getfield 57, 3) := by decide +kernel
theorem dX12_see_44 : decode cX12_see 44 = .ok (.imul, 1) := by decide +kernel
theorem dX12_see_45 : decode cX12_see 45 = .ok (.iconst 1, 1) := by decide +kernel
theorem dX12_see_46 : decode cX12_see 46 = .ok (.iadd, 1) := by decide +kernel
theorem dX12_see_47 : decode cX12_see 47 = .ok (.iload_n 2, 1) := by decide +kernel
theorem dX12_see_48 : decode cX12_see 48 = .ok (.ifCond .eq 7, 3) := by decide +kernel
theorem dX12_see_51 : decode cX12_see 51 = .ok (.iconst 1, 1) := by decide +kernel
theorem dX12_see_52 : decode cX12_see 52 = .ok (.goto 4, 3) := by decide +kernel
theorem dX12_see_55 : decode cX12_see 55 = .ok (.iconst 0, 1) := by decide +kernel
theorem dX12_see_56 : decode cX12_see 56 = .ok (.iastore, 1) := by decide +kernel
theorem dX12_see_57 : decode cX12_see 57 = .ok (.aload_n 0, 1) := by decide +kernel
theorem dX12_see_58 : decode cX12_see 58 = .ok (.dup, 1) := by decide +kernel
theorem dX12_see_59 : decode cX12_see 59 = .ok (.getfield 57, 3) := by decide +kernel
theorem dX12_see_62 : decode cX12_see 62 = .ok (.iconst 1, 1) := by decide +kernel
theorem dX12_see_63 : decode cX12_see 63 = .ok (.iadd, 1) := by decide +kernel
theorem dX12_see_64 : decode cX12_see 64 = .ok (.putfield 57, 3) := by decide +kernel
theorem dX12_see_67 : decode cX12_see 67 = .ok (.aload_n 0, 1) := by decide +kernel
theorem dX12_see_68 : decode cX12_see 68 = .ok (.getfield 57, 3) := by decide +kernel
theorem dX12_see_71 : decode cX12_see 71 = .ok (.ireturn, 1) := by decide +kernel
set_option maxRecDepth 20000 in
theorem ggX12_whence_X12_above : GoodIn wsX12_whence wsX12_above := goodIn_r _ [8, 1, 9, 10, 11, 12, 13, 14, 15, 16, 17, 18, 19, 20, 21, 22, 23, 24, 25, 26, 27, 28, 29, 30, 31, 32, 33] (by decide +kernel) (by decide +kernel)
set_option maxRecDepth 20000 in
theorem gX12_whence_X12_above : GoodIn wsX12_whence (wsV RX12 152 RX12 yX12_above wsX12_above) := goodIn_app (goodIn_of _ (by decide +kernel)) ggX12_whence_X12_above
theorem dX12_whence_0 : decode cX12_whence 0 = .ok (.iconst 1, 1) := by decide +kernel
theorem dX12_whence_1 : decode cX12_whence 1 = .ok (.aload_n 0, 1) := by decide +kernel
theorem dX12_whence_2 : decode cX12_whence 2 = .ok (.getfield 7, 3) := by decide +kernel
theorem dX12_whence_5 : decode cX12_whence 5 = .ok (.iconst 2, 1) := by decide +kernel
theorem dX12_whence_6 : decode cX12_whence 6 = .ok (.iaload, 1) := by decide +kernel
theorem dX12_whence_7 : decode cX12_whence 7 = .ok (.ishl, 1) := by decide +kernel
theorem dX12_whence_8 : decode cX12_whence 8 = .ok (.iconst 1, 1) := by decide +kernel
theorem dX12_whence_9 : decode cX12_whence 9 = .ok (.isub, 1) := by decide +kernel
theorem dX12_whence_10 : decode cX12_whence 10 = .ok (.istore_n 1, 1) := by decide +kernel
theorem dX12_whence_11 : decode cX12_whence 11 = .ok (.iconst 0, 1) := by decide +kernel
theorem dX12_whence_12 : decode cX12_whence 12 = .ok (.istore_n 2, 1) := by decide +kernel
theorem dX12_whence_13 : decode cX12_whence 13 = .ok (.iload_n 2, 1) := by decide +kernel
theorem dX12_whence_14 : decode cX12_whence 14 = .ok (.aload_n 0, 1) := by decide +kernel
theorem dX12_whence_15 : decode cX12_whence 15 = .ok (.getfield 57, 3) := by decide +kernel
theorem dX12_whence_18 : decode cX12_whence 18 = .ok (.if_icmp .ge 46, 3) := by decide +kernel
theorem dX12_whence_21 : decode cX12_whence 21 = .ok (.aload_n 0, 1) := by decide +kernel
theorem dX12_whence_22 : decode cX12_whence 22 = .ok (.aload_n 0, 1) := by decide +kernel
theorem dX12_whence_23 : decode cX12_whence 23 = .ok (.getfield 39, 3) := by decide +kernel
theorem dX12_whence_26 : decode cX12_whence 26 = .ok (.iconst 2, 1) := by decide +kernel
theorem dX12_whence_27 : decode cX12_whence 27 = .ok (.iload_n 2, 1) := by decide +kernel
theorem dX12_whence_28 : decode cX12_whence 28 = .ok (.imul, 1) := by decide +kernel
theorem dX12_whence_29 : decode cX12_whence 29 = .ok (.iaload, 1) := by decide +kernel
theorem dX12_whence_30 : decode cX12_whence 30 = .ok (.invokevirtual 152, 3) := by decide +kernel
theorem dX12_whence_33 : decode cX12_whence 33 = .ok (.istore_n 3, 1) := by decide +kernel
theorem dX12_whence_34 : decode cX12_whence 34 = .ok (.iload_n 1, 1) := by decide +kernel
theorem dX12_whence_35 : decode cX12_whence 35 = .ok (.aload_n 0, 1) := by decide +kernel
theorem dX12_whence_36 : decode cX12_whence 36 = .ok (.getfield 39, 3) := by decide +kernel
theorem dX12_whence_39 : decode cX12_whence 39 = .ok (.iconst 2, 1) := by decide +kernel
theorem dX12_whence_40 : decode cX12_whence 40 = .ok (.iload_n 2, 1) := by decide +kernel
theorem dX12_whence_41 : decode cX12_whence 41 = .ok (.imul, 1) := by decide +kernel
theorem dX12_whence_42 : decode cX12_whence 42 = .ok (.iconst 1, 1) := by decide +kernel
theorem dX12_whence_43 : decode cX12_whence 43 = .ok (.iadd, 1) := by decide +kernel
theorem dX12_whence_44 : decode cX12_whence 44 = .ok (.iaload, 1) := by decide +kernel
theorem dX12_whence_45 : decode cX12_whence 45 = .ok (.iconst 1, 1) := by decide +kernel
theorem dX12_whence_46 : decode cX12_whence 46 = .ok (.if_icmp .ne 7, 3) := by decide +kernel
theorem dX12_whence_49 : decode cX12_whence 49 = .ok (.iload_n 3, 1) := by decide +kernel
theorem dX12_whence_50 : decode cX12_whence 50 = .ok (.goto 6, 3) := by decide +kernel
theorem dX12_whence_53 : decode cX12_whence 53 = .ok (.iload_n 3, 1) := by decide +kernel
theorem dX12_whence_54 : decode cX12_whence 54 = .ok (.iconst (-1), 1) := by decide +kernel
theorem dX12_whence_55 : decode cX12_whence 55 = .ok (.ixor, 1) := by decide +kernel
theorem dX12_whence_56 : decode cX12_whence 56 = .ok (.iand, 1) := by decide +kernel
theorem dX12_whence_57 : decode cX12_whence 57 = .ok (.istore_n 1, 1) := by decide +kernel
theorem dX12_whence_58 : decode cX12_whence 58 = .ok (.iinc 2 1, 3) := by decide +kernel
theorem dX12_whence_61 : decode cX12_whence 61 = .ok (.goto (-48), 3) := by decide +kernel
theorem dX12_whence_64 : decode cX12_whence 64 = .ok (.iload_n 1, 1) := by decide +kernel
theorem dX12_whence_65 : decode cX12_whence 65 = .ok (.ireturn, 1) := by decide +kernel
set_option maxRecDepth 20000 in
theorem ggX12_lookAt_X12_whence : GoodIn wsX12_lookAt wsX12_whence := goodIn_r _ [6, 1, 7, 8, 9, 10, 11, 5, 12, 19, 20, 21, 22, 23, 24, 25, 26, 27, 28, 29, 30, 31, 32, 33, 34, 35, 36, 37, 38, 39, 40, 41, 42, 43] (by decide +kernel) (by decide +kernel)
set_option maxRecDepth 20000 in
theorem gX12_lookAt_X12_whence : GoodIn wsX12_lookAt (wsV RX12 225 RX12 yX12_whence wsX12_whence) := goodIn_app (goodIn_of _ (by decide +kernel)) ggX12_lookAt_X12_whence
set_option maxRecDepth 20000 in
theorem ggX12_lookAt_X12_bits : GoodIn wsX12_lookAt wsX12_bits := goodIn_r _ [15] (by decide +kernel) (by decide +kernel)
set_option maxRecDepth 20000 in
theorem gX12_lookAt_X12_bits : GoodIn wsX12_lookAt (va_wsS RX12 206 yX12_bits wsX12_bits) := goodIn_app (goodIn_of _ (by decide +kernel)) ggX12_lookAt_X12_bits
set_option maxRecDepth 20000 in
theorem ggX12_lookAt_X12_above : GoodIn wsX12_lookAt wsX12_above := goodIn_r _ [12, 1, 19, 20, 21, 22, 23, 24, 25, 26, 27, 28, 29, 30, 31, 32, 33, 34, 35, 36, 37, 38, 39, 40, 41, 42, 43] (by decide +kernel) (by decide +kernel)
set_option maxRecDepth 20000 in
theorem gX12_lookAt_X12_above : GoodIn wsX12_lookAt (wsV RX12 152 RX12 yX12_above wsX12_above) := goodIn_app (goodIn_of _ (by decide +kernel)) ggX12_lookAt_X12_above
set_option maxRecDepth 20000 in
theorem ggX12_lookAt_X12_lesser : GoodIn wsX12_lookAt wsX12_lesser := goodIn_r _ [18] (by decide +kernel) (by decide +kernel)
set_option maxRecDepth 20000 in
theorem gX12_lookAt_X12_lesser : GoodIn wsX12_lookAt (va_wsS RX12 129 yX12_lesser wsX12_lesser) := goodIn_app (goodIn_of _ (by decide +kernel)) ggX12_lookAt_X12_lesser
theorem dX12_lookAt_0 : decode cX12_lookAt 0 = .ok (.aload_n 0, 1) := by decide +kernel
theorem dX12_lookAt_1 : decode cX12_lookAt 1 = .ok (.invokevirtual 225, 3) := by decide +kernel
theorem dX12_lookAt_4 : decode cX12_lookAt 4 = .ok (.istore_n 1, 1) := by decide +kernel
theorem dX12_lookAt_5 : decode cX12_lookAt 5 = .ok (.iload_n 1, 1) := by decide +kernel
theorem dX12_lookAt_6 : decode cX12_lookAt 6 = .ok (.invokestatic 206, 3) := by decide +kernel
theorem dX12_lookAt_9 : decode cX12_lookAt 9 = .ok (.istore_n 2, 1) := by decide +kernel
theorem dX12_lookAt_10 : decode cX12_lookAt 10 = .ok (.iload_n 2, 1) := by decide +kernel
theorem dX12_lookAt_11 : decode cX12_lookAt 11 = .ok (.istore_n 3, 1) := by decide +kernel
theorem dX12_lookAt_12 : decode cX12_lookAt 12 = .ok (.iconst (-1), 1) := by decide +kernel
theorem dX12_lookAt_13 : decode cX12_lookAt 13 = .ok (.istore 4, 2) := by decide +kernel
theorem dX12_lookAt_15 : decode cX12_lookAt 15 = .ok (.iconst 0, 1) := by decide +kernel
theorem dX12_lookAt_16 : decode cX12_lookAt 16 = .ok (.istore 5, 2) := by decide +kernel
theorem dX12_lookAt_18 : decode cX12_lookAt 18 = .ok (.iload 5, 2) := by decide +kernel
theorem dX12_lookAt_20 : decode cX12_lookAt 20 = .ok (.aload_n 0, 1) := by decide +kernel
theorem dX12_lookAt_21 : decode cX12_lookAt 21 = .ok (.getfield 7, 3) := by decide +kernel
theorem dX12_lookAt_24 : decode cX12_lookAt 24 = .ok (.iconst 2, 1) := by decide +kernel
theorem dX12_lookAt_25 : decode cX12_lookAt 25 = .ok (.iaload, 1) := by decide +kernel
theorem dX12_lookAt_26 : decode cX12_lookAt 26 = .ok (.if_icmp .ge 64, 3) := by decide +kernel
theorem dX12_lookAt_29 : decode cX12_lookAt 29 = .ok (.iload_n 1, 1) := by decide +kernel
theorem dX12_lookAt_30 : decode cX12_lookAt 30 = .ok (.aload_n 0, 1) := by decide +kernel
theorem dX12_lookAt_31 : decode cX12_lookAt 31 = .ok (.iload 5, 2) := by decide +kernel
theorem dX12_lookAt_33 : decode cX12_lookAt 33 = .ok (.invokevirtual 152, 3) := by decide +kernel
theorem dX12_lookAt_36 : decode cX12_lookAt 36 = .ok (.iand, 1) := by decide +kernel
theorem dX12_lookAt_37 : decode cX12_lookAt 37 = .ok (.invokestatic 206, 3) := by decide +kernel
theorem dX12_lookAt_40 : decode cX12_lookAt 40 = .ok (.istore 6, 2) := by decide +kernel
theorem dX12_lookAt_42 : decode cX12_lookAt 42 = .ok (.iload 6, 2) := by decide +kernel
theorem dX12_lookAt_44 : decode cX12_lookAt 44 = .ok (.iload_n 2, 1) := by decide +kernel
theorem dX12_lookAt_45 : decode cX12_lookAt 45 = .ok (.iload 6, 2) := by decide +kernel
theorem dX12_lookAt_47 : decode cX12_lookAt 47 = .ok (.isub, 1) := by decide +kernel
theorem dX12_lookAt_48 : decode cX12_lookAt 48 = .ok (.if_icmp .le 8, 3) := by decide +kernel
theorem dX12_lookAt_51 : decode cX12_lookAt 51 = .ok (.iload 6, 2) := by decide +kernel
theorem dX12_lookAt_53 : decode cX12_lookAt 53 = .ok (.goto 7, 3) := by decide +kernel
theorem dX12_lookAt_56 : decode cX12_lookAt 56 = .ok (.iload_n 2, 1) := by decide +kernel
theorem dX12_lookAt_57 : decode cX12_lookAt 57 = .ok (.iload 6, 2) := by decide +kernel
theorem dX12_lookAt_59 : decode cX12_lookAt 59 = .ok (.isub, 1) := by decide +kernel
theorem dX12_lookAt_60 : decode cX12_lookAt 60 = .ok (.istore 7, 2) := by decide +kernel
theorem dX12_lookAt_62 : decode cX12_lookAt 62 = .ok (.iload 7, 2) := by decide +kernel
theorem dX12_lookAt_64 : decode cX12_lookAt 64 = .ok (.iload_n 3, 1) := by decide +kernel
theorem dX12_lookAt_65 : decode cX12_lookAt 65 = .ok (.if_icmp .ge 8, 3) := by decide +kernel
theorem dX12_lookAt_68 : decode cX12_lookAt 68 = .ok (.iload 5, 2) := by decide +kernel
theorem dX12_lookAt_70 : decode cX12_lookAt 70 = .ok (.goto 5, 3) := by decide +kernel
theorem dX12_lookAt_73 : decode cX12_lookAt 73 = .ok (.iload 4, 2) := by decide +kernel
theorem dX12_lookAt_75 : decode cX12_lookAt 75 = .ok (.istore 4, 2) := by decide +kernel
theorem dX12_lookAt_77 : decode cX12_lookAt 77 = .ok (.iload 7, 2) := by decide +kernel
theorem dX12_lookAt_79 : decode cX12_lookAt 79 = .ok (.iload_n 3, 1) := by decide +kernel
theorem dX12_lookAt_80 : decode cX12_lookAt 80 = .ok (.invokestatic 129, 3) := by decide +kernel
theorem dX12_lookAt_83 : decode cX12_lookAt 83 = .ok (.istore_n 3, 1) := by decide +kernel
theorem dX12_lookAt_84 : decode cX12_lookAt 84 = .ok (.iinc 5 1, 3) := by decide +kernel
theorem dX12_lookAt_87 : decode cX12_lookAt 87 = .ok (.goto (-69), 3) := by decide +kernel
theorem dX12_lookAt_90 : decode cX12_lookAt 90 = .ok (.iload 4, 2) := by decide +kernel
theorem dX12_lookAt_92 : decode cX12_lookAt 92 = .ok (.ireturn, 1) := by decide +kernel
set_option maxRecDepth 20000 in
theorem ggX12_write_X12_isHouse : GoodIn wsX12_write wsX12_isHouse := goodIn_r _ [11, 12, 13, 14, 10, 15, 16, 17, 18, 19, 20, 21, 22, 23, 24, 25, 26, 27, 28, 29, 30, 31, 32, 33, 34, 35, 36, 37, 38, 39, 40] (by decide +kernel) (by decide +kernel)
set_option maxRecDepth 20000 in
theorem gX12_write_X12_isHouse : GoodIn wsX12_write (wsV RX12 148 RX12 yX12_isHouse wsX12_isHouse) := goodIn_app (goodIn_of _ (by decide +kernel)) ggX12_write_X12_isHouse
set_option maxRecDepth 20000 in
theorem ggX12_write_X12_in : GoodIn wsX12_write wsX12_in := goodIn_r _ [15] (by decide +kernel) (by decide +kernel)
set_option maxRecDepth 20000 in
theorem gX12_write_X12_in : GoodIn wsX12_write (va_wsS RX12 65 yX12_in wsX12_in) := goodIn_app (goodIn_of _ (by decide +kernel)) ggX12_write_X12_in
theorem dX12_write_0 : decode cX12_write 0 = .ok (.aload_n 0, 1) := by decide +kernel
theorem dX12_write_1 : decode cX12_write 1 = .ok (.iload_n 1, 1) := by decide +kernel
theorem dX12_write_2 : decode cX12_write 2 = .ok (.invokevirtual 148, 3) := by decide +kernel
theorem dX12_write_5 : decode cX12_write 5 = .ok (.ifCond .ne 6, 3) := by decide +kernel
theorem dX12_write_8 : decode cX12_write 8 = .ok (.ldc 151, 2) := by decide +kernel
theorem dX12_write_10 : decode cX12_write 10 = .ok (.ireturn, 1) := by decide +kernel
theorem dX12_write_11 : decode cX12_write 11 = .ok (.iload_n 2, 1) := by decide +kernel
theorem dX12_write_12 : decode cX12_write 12 = .ok (.i2l, 1) := by decide +kernel
theorem dX12_write_13 : decode cX12_write 13 = .ok (.lconst 0, 1) := by decide +kernel
theorem dX12_write_14 : decode cX12_write 14 = .ok (.ldc2_w 169, 3) := by decide +kernel
theorem dX12_write_17 : decode cX12_write 17 = .ok (.invokestatic 65, 3) := by decide +kernel
theorem dX12_write_20 : decode cX12_write 20 = .ok (.ifCond .ne 6, 3) := by decide +kernel
theorem dX12_write_23 : decode cX12_write 23 = .ok (.ldc 69, 2) := by decide +kernel
theorem dX12_write_25 : decode cX12_write 25 = .ok (.ireturn, 1) := by decide +kernel
theorem dX12_write_26 : decode cX12_write 26 = .ok (.aload_n 0, 1) := by decide +kernel
theorem dX12_write_27 : decode cX12_write 27 = .ok (.getfield 60, 3) := by decide +kernel
theorem dX12_write_30 : decode cX12_write 30 = .ok (.bipush 20, 2) := by decide +kernel
theorem dX12_write_32 : decode cX12_write 32 = .ok (.if_icmp .ne 6, 3) := by decide +kernel
theorem dX12_write_35 : decode cX12_write 35 = .ok (.ldc 73, 2) := by decide +kernel
theorem dX12_write_37 : decode cX12_write 37 = .ok (.ireturn, 1) := by decide +kernel
theorem dX12_write_38 : decode cX12_write 38 = .ok (.aload_n 0, 1) := by decide +kernel
theorem dX12_write_39 : decode cX12_write 39 = .ok (.getfield 42, 3) := by decide +kernel
theorem dX12_write_42 : decode cX12_write 42 = .ok (.iconst 2, 1) := by decide +kernel
theorem dX12_write_43 : decode cX12_write 43 = .ok (.aload_n 0, 1) := by decide +kernel
theorem dX12_write_44 : decode cX12_write 44 = .ok (.getfield 60, 3) := by decide +kernel
theorem dX12_write_47 : decode cX12_write 47 = .ok (.imul, 1) := by decide +kernel
theorem dX12_write_48 : decode cX12_write 48 = .ok (.iload_n 1, 1) := by decide +kernel
theorem dX12_write_49 : decode cX12_write 49 = .ok (.iastore, 1) := by decide +kernel
theorem dX12_write_50 : decode cX12_write 50 = .ok (.aload_n 0, 1) := by decide +kernel
theorem dX12_write_51 : decode cX12_write 51 = .ok (.getfield 42, 3) := by decide +kernel
theorem dX12_write_54 : decode cX12_write 54 = .ok (.iconst 2, 1) := by decide +kernel
theorem dX12_write_55 : decode cX12_write 55 = .ok (.aload_n 0, 1) := by decide +kernel
theorem dX12_write_56 : decode cX12_write 56 = .ok (.getfield 60, 3) := by decide +kernel
theorem dX12_write_59 : decode cX12_write 59 = .ok (.imul, 1) := by decide +kernel
theorem dX12_write_60 : decode cX12_write 60 = .ok (.iconst 1, 1) := by decide +kernel
theorem dX12_write_61 : decode cX12_write 61 = .ok (.iadd, 1) := by decide +kernel
theorem dX12_write_62 : decode cX12_write 62 = .ok (.iload_n 2, 1) := by decide +kernel
theorem dX12_write_63 : decode cX12_write 63 = .ok (.iastore, 1) := by decide +kernel
theorem dX12_write_64 : decode cX12_write 64 = .ok (.aload_n 0, 1) := by decide +kernel
theorem dX12_write_65 : decode cX12_write 65 = .ok (.dup, 1) := by decide +kernel
theorem dX12_write_66 : decode cX12_write 66 = .ok (.getfield 60, 3) := by decide +kernel
theorem dX12_write_69 : decode cX12_write 69 = .ok (.iconst 1, 1) := by decide +kernel
theorem dX12_write_70 : decode cX12_write 70 = .ok (.iadd, 1) := by decide +kernel
theorem dX12_write_71 : decode cX12_write 71 = .ok (.putfield 60, 3) := by decide +kernel
theorem dX12_write_74 : decode cX12_write 74 = .ok (.aload_n 0, 1) := by decide +kernel
theorem dX12_write_75 : decode cX12_write 75 = .ok (.getfield 60, 3) := by decide +kernel
theorem dX12_write_78 : decode cX12_write 78 = .ok (.ireturn, 1) := by decide +kernel
theorem dX12_judge_0 : decode cX12_judge 0 = .ok (.iconst 0, 1) := by decide +kernel
theorem dX12_judge_1 : decode cX12_judge 1 = .ok (.istore_n 1, 1) := by decide +kernel
theorem dX12_judge_2 : decode cX12_judge 2 = .ok (.iload_n 1, 1) := by decide +kernel
theorem dX12_judge_3 : decode cX12_judge 3 = .ok (.aload_n 0, 1) := by decide +kernel
theorem dX12_judge_4 : decode cX12_judge 4 = .ok (.getfield 60, 3) := by decide +kernel
theorem dX12_judge_7 : decode cX12_judge 7 = .ok (.if_icmp .ge 39, 3) := by decide +kernel
theorem dX12_judge_10 : decode cX12_judge 10 = .ok (.aload_n 0, 1) := by decide +kernel
theorem dX12_judge_11 : decode cX12_judge 11 = .ok (.getfield 16, 3) := by decide +kernel
theorem dX12_judge_14 : decode cX12_judge 14 = .ok (.iconst 0, 1) := by decide +kernel
theorem dX12_judge_15 : decode cX12_judge 15 = .ok (.aload_n 0, 1) := by decide +kernel
theorem dX12_judge_16 : decode cX12_judge 16 = .ok (.getfield 42, 3) := by decide +kernel
theorem dX12_judge_19 : decode cX12_judge 19 = .ok (.iconst 2, 1) := by decide +kernel
theorem dX12_judge_20 : decode cX12_judge 20 = .ok (.iload_n 1, 1) := by decide +kernel
theorem dX12_judge_21 : decode cX12_judge 21 = .ok (.imul, 1) := by decide +kernel
theorem dX12_judge_22 : decode cX12_judge 22 = .ok (.iaload, 1) := by decide +kernel
theorem dX12_judge_23 : decode cX12_judge 23 = .ok (.iadd, 1) := by decide +kernel
theorem dX12_judge_24 : decode cX12_judge 24 = .ok (.iaload, 1) := by decide +kernel
theorem dX12_judge_25 : decode cX12_judge 25 = .ok (.aload_n 0, 1) := by decide +kernel
theorem dX12_judge_26 : decode cX12_judge 26 = .ok (.getfield 42, 3) := by decide +kernel
theorem dX12_judge_29 : decode cX12_judge 29 = .ok (.iconst 2, 1) := by decide +kernel
theorem dX12_judge_30 : decode cX12_judge 30 = .ok (.iload_n 1, 1) := by decide +kernel
theorem dX12_judge_31 : decode cX12_judge 31 = .ok (.imul, 1) := by decide +kernel
theorem dX12_judge_32 : decode cX12_judge 32 = .ok (.iconst 1, 1) := by decide +kernel
theorem dX12_judge_33 : decode cX12_judge 33 = .ok (.iadd, 1) := by decide +kernel
theorem dX12_judge_34 : decode cX12_judge 34 = .ok (.iaload, 1) := by decide +kernel
theorem dX12_judge_35 : decode cX12_judge 35 = .ok (.if_icmp .eq 5, 3) := by decide +kernel
theorem dX12_judge_38 : decode cX12_judge 38 = .ok (.iload_n 1, 1) := by decide +kernel
theorem dX12_judge_39 : decode cX12_judge 39 = .ok (.ireturn, 1) := by decide +kernel
theorem dX12_judge_40 : decode cX12_judge 40 = .ok (.iinc 1 1, 3) := by decide +kernel
theorem dX12_judge_43 : decode cX12_judge 43 = .ok (.goto (-41), 3) := by decide +kernel
theorem dX12_judge_46 : decode cX12_judge 46 = .ok (.iconst (-1), 1) := by decide +kernel
theorem dX12_judge_47 : decode cX12_judge 47 = .ok (.ireturn, 1) := by decide +kernel
theorem dX12_tear_0 : decode cX12_tear 0 = .ok (.aload_n 0, 1) := by decide +kernel
theorem dX12_tear_1 : decode cX12_tear 1 = .ok (.getfield 57, 3) := by decide +kernel
theorem dX12_tear_4 : decode cX12_tear 4 = .ok (.aload_n 0, 1) := by decide +kernel
theorem dX12_tear_5 : decode cX12_tear 5 = .ok (.getfield 60, 3) := by decide +kernel
theorem dX12_tear_8 : decode cX12_tear 8 = .ok (.iadd, 1) := by decide +kernel
theorem dX12_tear_9 : decode cX12_tear 9 = .ok (.istore_n 1, 1) := by decide +kernel
theorem dX12_tear_10 : decode cX12_tear 10 = .ok (.aload_n 0, 1) := by decide +kernel
theorem dX12_tear_11 : decode cX12_tear 11 = .ok (.iconst 0, 1) := by decide +kernel
theorem dX12_tear_12 : decode cX12_tear 12 = .ok (.putfield 57, 3) := by decide +kernel
theorem dX12_tear_15 : decode cX12_tear 15 = .ok (.aload_n 0, 1) := by decide +kernel
theorem dX12_tear_16 : decode cX12_tear 16 = .ok (.iconst 0, 1) := by decide +kernel
theorem dX12_tear_17 : decode cX12_tear 17 = .ok (.putfield 60, 3) := by decide +kernel
theorem dX12_tear_20 : decode cX12_tear 20 = .ok (.iload_n 1, 1) := by decide +kernel
theorem dX12_tear_21 : decode cX12_tear 21 = .ok (.ireturn, 1) := by decide +kernel
theorem dX12_seed_0 : decode cX12_seed 0 = .ok (.iload_n 1, 1) := by decide +kernel
theorem dX12_seed_1 : decode cX12_seed 1 = .ok (.ifCond .ge 6, 3) := by decide +kernel
theorem dX12_seed_4 : decode cX12_seed 4 = .ok (.ldc 69, 2) := by decide +kernel
theorem dX12_seed_6 : decode cX12_seed 6 = .ok (.ireturn, 1) := by decide +kernel
theorem dX12_seed_7 : decode cX12_seed 7 = .ok (.aload_n 0, 1) := by decide +kernel
theorem dX12_seed_8 : decode cX12_seed 8 = .ok (.getfield 177, 3) := by decide +kernel
theorem dX12_seed_11 : decode cX12_seed 11 = .ok (.l2i, 1) := by decide +kernel
theorem dX12_seed_12 : decode cX12_seed 12 = .ok (.istore_n 2, 1) := by decide +kernel
theorem dX12_seed_13 : decode cX12_seed 13 = .ok (.aload_n 0, 1) := by decide +kernel
theorem dX12_seed_14 : decode cX12_seed 14 = .ok (.iload_n 1, 1) := by decide +kernel
theorem dX12_seed_15 : decode cX12_seed 15 = .ok (.i2l, 1) := by decide +kernel
theorem dX12_seed_16 : decode cX12_seed 16 = .ok (.putfield 177, 3) := by decide +kernel
theorem dX12_seed_19 : decode cX12_seed 19 = .ok (.iload_n 2, 1) := by decide +kernel
theorem dX12_seed_20 : decode cX12_seed 20 = .ok (.ireturn, 1) := by decide +kernel
set_option maxRecDepth 20000 in
theorem ggX12_keep_X12_in : GoodIn wsX12_keep wsX12_in := goodIn_r _ [10] (by decide +kernel) (by decide +kernel)
set_option maxRecDepth 20000 in
theorem gX12_keep_X12_in : GoodIn wsX12_keep (va_wsS RX12 65 yX12_in wsX12_in) := goodIn_app (goodIn_of _ (by decide +kernel)) ggX12_keep_X12_in
set_option maxRecDepth 20000 in
theorem ggX12_keep_X12_copies : GoodIn wsX12_keep wsX12_copies := goodIn_r _ [13] (by decide +kernel) (by decide +kernel)
set_option maxRecDepth 20000 in
theorem gX12_keep_X12_copies : GoodIn wsX12_keep (va_wsS RX12 121 yX12_copies wsX12_copies) := goodIn_app (goodIn_of _ (by decide +kernel)) ggX12_keep_X12_copies
theorem dX12_keep_0 : decode cX12_keep 0 = .ok (.iload_n 1, 1) := by decide +kernel
theorem dX12_keep_1 : decode cX12_keep 1 = .ok (.i2l, 1) := by decide +kernel
theorem dX12_keep_2 : decode cX12_keep 2 = .ok (.lconst 0, 1) := by decide +kernel
theorem dX12_keep_3 : decode cX12_keep 3 = .ok (.lconst 1, 1) := by decide +kernel
theorem dX12_keep_4 : decode cX12_keep 4 = .ok (.invokestatic 65, 3) := by decide +kernel
theorem dX12_keep_7 : decode cX12_keep 7 = .ok (.ifCond .ne 6, 3) := by decide +kernel
theorem dX12_keep_10 : decode cX12_keep 10 = .ok (.ldc 151, 2) := by decide +kernel
theorem dX12_keep_12 : decode cX12_keep 12 = .ok (.ireturn, 1) := by decide +kernel
theorem dX12_keep_13 : decode cX12_keep 13 = .ok (.aload_n 0, 1) := by decide +kernel
theorem dX12_keep_14 : decode cX12_keep 14 = .ok (.getfield 16, 3) := by decide +kernel
theorem dX12_keep_17 : decode cX12_keep 17 = .ok (.iconst 0, 1) := by decide +kernel
theorem dX12_keep_18 : decode cX12_keep 18 = .ok (.aload_n 0, 1) := by decide +kernel
theorem dX12_keep_19 : decode cX12_keep 19 = .ok (.getfield 25, 3) := by decide +kernel
theorem dX12_keep_22 : decode cX12_keep 22 = .ok (.bipush 20, 2) := by decide +kernel
theorem dX12_keep_24 : decode cX12_keep 24 = .ok (.iload_n 1, 1) := by decide +kernel
theorem dX12_keep_25 : decode cX12_keep 25 = .ok (.imul, 1) := by decide +kernel
theorem dX12_keep_26 : decode cX12_keep 26 = .ok (.bipush 19, 2) := by decide +kernel
theorem dX12_keep_28 : decode cX12_keep 28 = .ok (.invokestatic 121, 3) := by decide +kernel
theorem dX12_keep_31 : decode cX12_keep 31 = .ok (.aload_n 0, 1) := by decide +kernel
theorem dX12_keep_32 : decode cX12_keep 32 = .ok (.getfield 25, 3) := by decide +kernel
theorem dX12_keep_35 : decode cX12_keep 35 = .ok (.bipush 20, 2) := by decide +kernel
theorem dX12_keep_37 : decode cX12_keep 37 = .ok (.iload_n 1, 1) := by decide +kernel
theorem dX12_keep_38 : decode cX12_keep 38 = .ok (.imul, 1) := by decide +kernel
theorem dX12_keep_39 : decode cX12_keep 39 = .ok (.bipush 19, 2) := by decide +kernel
theorem dX12_keep_41 : decode cX12_keep 41 = .ok (.iadd, 1) := by decide +kernel
theorem dX12_keep_42 : decode cX12_keep 42 = .ok (.aload_n 0, 1) := by decide +kernel
theorem dX12_keep_43 : decode cX12_keep 43 = .ok (.getfield 177, 3) := by decide +kernel
theorem dX12_keep_46 : decode cX12_keep 46 = .ok (.l2i, 1) := by decide +kernel
theorem dX12_keep_47 : decode cX12_keep 47 = .ok (.iastore, 1) := by decide +kernel
theorem dX12_keep_48 : decode cX12_keep 48 = .ok (.aload_n 0, 1) := by decide +kernel
theorem dX12_keep_49 : decode cX12_keep 49 = .ok (.getfield 28, 3) := by decide +kernel
theorem dX12_keep_52 : decode cX12_keep 52 = .ok (.iload_n 1, 1) := by decide +kernel
theorem dX12_keep_53 : decode cX12_keep 53 = .ok (.iconst 1, 1) := by decide +kernel
theorem dX12_keep_54 : decode cX12_keep 54 = .ok (.bastore, 1) := by decide +kernel
theorem dX12_keep_55 : decode cX12_keep 55 = .ok (.aload_n 0, 1) := by decide +kernel
theorem dX12_keep_56 : decode cX12_keep 56 = .ok (.iconst 0, 1) := by decide +kernel
theorem dX12_keep_57 : decode cX12_keep 57 = .ok (.putfield 54, 3) := by decide +kernel
theorem dX12_keep_60 : decode cX12_keep 60 = .ok (.iconst 1, 1) := by decide +kernel
theorem dX12_keep_61 : decode cX12_keep 61 = .ok (.ireturn, 1) := by decide +kernel
set_option maxRecDepth 20000 in
theorem ggX12_goBack_X12_in : GoodIn wsX12_goBack wsX12_in := goodIn_r _ [11] (by decide +kernel) (by decide +kernel)
set_option maxRecDepth 20000 in
theorem gX12_goBack_X12_in : GoodIn wsX12_goBack (va_wsS RX12 65 yX12_in wsX12_in) := goodIn_app (goodIn_of _ (by decide +kernel)) ggX12_goBack_X12_in
set_option maxRecDepth 20000 in
theorem ggX12_goBack_X12_copies : GoodIn wsX12_goBack wsX12_copies := goodIn_r _ [14] (by decide +kernel) (by decide +kernel)
set_option maxRecDepth 20000 in
theorem gX12_goBack_X12_copies : GoodIn wsX12_goBack (va_wsS RX12 121 yX12_copies wsX12_copies) := goodIn_app (goodIn_of _ (by decide +kernel)) ggX12_goBack_X12_copies
theorem dX12_goBack_0 : decode cX12_goBack 0 = .ok (.iload_n 1, 1) := by decide +kernel
theorem dX12_goBack_1 : decode cX12_goBack 1 = .ok (.i2l, 1) := by decide +kernel
theorem dX12_goBack_2 : decode cX12_goBack 2 = .ok (.lconst 0, 1) := by decide +kernel
theorem dX12_goBack_3 : decode cX12_goBack 3 = .ok (.lconst 1, 1) := by decide +kernel
theorem dX12_goBack_4 : decode cX12_goBack 4 = .ok (.invokestatic 65, 3) := by decide +kernel
theorem dX12_goBack_7 : decode cX12_goBack 7 = .ok (.ifCond .ne 6, 3) := by decide +kernel
theorem dX12_goBack_10 : decode cX12_goBack 10 = .ok (.ldc 151, 2) := by decide +kernel
theorem dX12_goBack_12 : decode cX12_goBack 12 = .ok (.ireturn, 1) := by decide +kernel
theorem dX12_goBack_13 : decode cX12_goBack 13 = .ok (.aload_n 0, 1) := by decide +kernel
theorem dX12_goBack_14 : decode cX12_goBack 14 = .ok (.getfield 28, 3) := by decide +kernel
theorem dX12_goBack_17 : decode cX12_goBack 17 = .ok (.iload_n 1, 1) := by decide +kernel
theorem dX12_goBack_18 : decode cX12_goBack 18 = .ok (.baload, 1) := by decide +kernel
theorem dX12_goBack_19 : decode cX12_goBack 19 = .ok (.ifCond .ne 6, 3) := by decide +kernel
theorem dX12_goBack_22 : decode cX12_goBack 22 = .ok (.ldc 158, 2) := by decide +kernel
theorem dX12_goBack_24 : decode cX12_goBack 24 = .ok (.ireturn, 1) := by decide +kernel
theorem dX12_goBack_25 : decode cX12_goBack 25 = .ok (.aload_n 0, 1) := by decide +kernel
theorem dX12_goBack_26 : decode cX12_goBack 26 = .ok (.getfield 25, 3) := by decide +kernel
theorem dX12_goBack_29 : decode cX12_goBack 29 = .ok (.bipush 20, 2) := by decide +kernel
theorem dX12_goBack_31 : decode cX12_goBack 31 = .ok (.iload_n 1, 1) := by decide +kernel
theorem dX12_goBack_32 : decode cX12_goBack 32 = .ok (.imul, 1) := by decide +kernel
theorem dX12_goBack_33 : decode cX12_goBack 33 = .ok (.aload_n 0, 1) := by decide +kernel
theorem dX12_goBack_34 : decode cX12_goBack 34 = .ok (.getfield 16, 3) := by decide +kernel
theorem dX12_goBack_37 : decode cX12_goBack 37 = .ok (.iconst 0, 1) := by decide +kernel
theorem dX12_goBack_38 : decode cX12_goBack 38 = .ok (.bipush 19, 2) := by decide +kernel
theorem dX12_goBack_40 : decode cX12_goBack 40 = .ok (.invokestatic 121, 3) := by decide +kernel
theorem dX12_goBack_43 : decode cX12_goBack 43 = .ok (.aload_n 0, 1) := by decide +kernel
theorem dX12_goBack_44 : decode cX12_goBack 44 = .ok (.aload_n 0, 1) := by decide +kernel
theorem dX12_goBack_45 : decode cX12_goBack 45 = .ok (.getfield 25, 3) := by decide +kernel
theorem dX12_goBack_48 : decode cX12_goBack 48 = .ok (.bipush 20, 2) := by decide +kernel
theorem dX12_goBack_50 : decode cX12_goBack 50 = .ok (.iload_n 1, 1) := by decide +kernel
theorem dX12_goBack_51 : decode cX12_goBack 51 = .ok (.imul, 1) := by decide +kernel
theorem dX12_goBack_52 : decode cX12_goBack 52 = .ok (.bipush 19, 2) := by decide +kernel
