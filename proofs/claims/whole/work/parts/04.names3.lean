theorem dX9_get_16 : decode cX9_get 16 = .ok (.imul, 1) := by decide +kernel
theorem dX9_get_17 : decode cX9_get 17 = .ok (.istore_n 3, 1) := by decide +kernel
theorem dX9_get_18 : decode cX9_get 18 = .ok (.aload_n 0, 1) := by decide +kernel
theorem dX9_get_19 : decode cX9_get 19 = .ok (.getfield 23, 3) := by decide +kernel
theorem dX9_get_22 : decode cX9_get 22 = .ok (.iload_n 3, 1) := by decide +kernel
theorem dX9_get_23 : decode cX9_get 23 = .ok (.aload_n 2, 1) := by decide +kernel
theorem dX9_get_24 : decode cX9_get 24 = .ok (.getfield 27, 3) := by decide +kernel
theorem dX9_get_27 : decode cX9_get 27 = .ok (.iconst 0, 1) := by decide +kernel
theorem dX9_get_28 : decode cX9_get 28 = .ok (.bipush 8, 2) := by decide +kernel
theorem dX9_get_30 : decode cX9_get 30 = .ok (.invokestatic 30, 3) := by decide +kernel
theorem dX9_get_33 : decode cX9_get 33 = .ok (.aload_n 0, 1) := by decide +kernel
theorem dX9_get_34 : decode cX9_get 34 = .ok (.getfield 23, 3) := by decide +kernel
theorem dX9_get_37 : decode cX9_get 37 = .ok (.iload_n 3, 1) := by decide +kernel
theorem dX9_get_38 : decode cX9_get 38 = .ok (.bipush 8, 2) := by decide +kernel
theorem dX9_get_40 : decode cX9_get 40 = .ok (.iadd, 1) := by decide +kernel
theorem dX9_get_41 : decode cX9_get 41 = .ok (.aload_n 2, 1) := by decide +kernel
theorem dX9_get_42 : decode cX9_get 42 = .ok (.getfield 36, 3) := by decide +kernel
theorem dX9_get_45 : decode cX9_get 45 = .ok (.iconst 0, 1) := by decide +kernel
theorem dX9_get_46 : decode cX9_get 46 = .ok (.bipush 8, 2) := by decide +kernel
theorem dX9_get_48 : decode cX9_get 48 = .ok (.invokestatic 30, 3) := by decide +kernel
theorem dX9_get_51 : decode cX9_get 51 = .ok (.aload_n 2, 1) := by decide +kernel
theorem dX9_get_52 : decode cX9_get 52 = .ok (.aload_n 0, 1) := by decide +kernel
theorem dX9_get_53 : decode cX9_get 53 = .ok (.getfield 23, 3) := by decide +kernel
theorem dX9_get_56 : decode cX9_get 56 = .ok (.iload_n 3, 1) := by decide +kernel
theorem dX9_get_57 : decode cX9_get 57 = .ok (.bipush 16, 2) := by decide +kernel
theorem dX9_get_59 : decode cX9_get 59 = .ok (.iadd, 1) := by decide +kernel
theorem dX9_get_60 : decode cX9_get 60 = .ok (.iaload, 1) := by decide +kernel
theorem dX9_get_61 : decode cX9_get 61 = .ok (.putfield 39, 3) := by decide +kernel
theorem dX9_get_64 : decode cX9_get 64 = .ok (.aload_n 2, 1) := by decide +kernel
theorem dX9_get_65 : decode cX9_get 65 = .ok (.aload_n 0, 1) := by decide +kernel
theorem dX9_get_66 : decode cX9_get 66 = .ok (.getfield 23, 3) := by decide +kernel
theorem dX9_get_69 : decode cX9_get 69 = .ok (.iload_n 3, 1) := by decide +kernel
theorem dX9_get_70 : decode cX9_get 70 = .ok (.bipush 16, 2) := by decide +kernel
theorem dX9_get_72 : decode cX9_get 72 = .ok (.iadd, 1) := by decide +kernel
theorem dX9_get_73 : decode cX9_get 73 = .ok (.iconst 1, 1) := by decide +kernel
theorem dX9_get_74 : decode cX9_get 74 = .ok (.iadd, 1) := by decide +kernel
theorem dX9_get_75 : decode cX9_get 75 = .ok (.iaload, 1) := by decide +kernel
theorem dX9_get_76 : decode cX9_get 76 = .ok (.putfield 42, 3) := by decide +kernel
theorem dX9_get_79 : decode cX9_get 79 = .ok (.aload_n 2, 1) := by decide +kernel
theorem dX9_get_80 : decode cX9_get 80 = .ok (.aload_n 0, 1) := by decide +kernel
theorem dX9_get_81 : decode cX9_get 81 = .ok (.getfield 23, 3) := by decide +kernel
theorem dX9_get_84 : decode cX9_get 84 = .ok (.iload_n 3, 1) := by decide +kernel
theorem dX9_get_85 : decode cX9_get 85 = .ok (.bipush 16, 2) := by decide +kernel
theorem dX9_get_87 : decode cX9_get 87 = .ok (.iadd, 1) := by decide +kernel
theorem dX9_get_88 : decode cX9_get 88 = .ok (.iconst 2, 1) := by decide +kernel
theorem dX9_get_89 : decode cX9_get 89 = .ok (.iadd, 1) := by decide +kernel
theorem dX9_get_90 : decode cX9_get 90 = .ok (.iaload, 1) := by decide +kernel
theorem dX9_get_91 : decode cX9_get 91 = .ok (.putfield 45, 3) := by decide +kernel
theorem dX9_get_94 : decode cX9_get 94 = .ok (.return_, 1) := by decide +kernel
theorem dX10_init_0 : decode cX10_init 0 = .ok (.aload_n 0, 1) := by decide +kernel
theorem dX10_init_1 : decode cX10_init 1 = .ok (.invokespecial 3, 3) := by decide +kernel
theorem dX10_init_4 : decode cX10_init 4 = .ok (.aload_n 0, 1) := by decide +kernel
theorem dX10_init_5 : decode cX10_init 5 = .ok (.bipush 8, 2) := by decide +kernel
theorem dX10_init_7 : decode cX10_init 7 = .ok (.newarray .int, 2) := by decide +kernel
theorem dX10_init_9 : decode cX10_init 9 = .ok (.putfield 9, 3) := by decide +kernel
theorem dX10_init_12 : decode cX10_init 12 = .ok (.aload_n 0, 1) := by decide +kernel
theorem dX10_init_13 : decode cX10_init 13 = .ok (.bipush 8, 2) := by decide +kernel
theorem dX10_init_15 : decode cX10_init 15 = .ok (.newarray .int, 2) := by decide +kernel
theorem dX10_init_17 : decode cX10_init 17 = .ok (.putfield 15, 3) := by decide +kernel
theorem dX10_init_20 : decode cX10_init 20 = .ok (.aload_n 0, 1) := by decide +kernel
theorem dX10_init_21 : decode cX10_init 21 = .ok (.iconst 0, 1) := by decide +kernel
theorem dX10_init_22 : decode cX10_init 22 = .ok (.putfield 18, 3) := by decide +kernel
theorem dX10_init_25 : decode cX10_init 25 = .ok (.aload_n 0, 1) := by decide +kernel
theorem dX10_init_26 : decode cX10_init 26 = .ok (.iconst 0, 1) := by decide +kernel
theorem dX10_init_27 : decode cX10_init 27 = .ok (.putfield 22, 3) := by decide +kernel
theorem dX10_init_30 : decode cX10_init 30 = .ok (.aload_n 0, 1) := by decide +kernel
theorem dX10_init_31 : decode cX10_init 31 = .ok (.iconst 0, 1) := by decide +kernel
theorem dX10_init_32 : decode cX10_init 32 = .ok (.putfield 25, 3) := by decide +kernel
theorem dX10_init_35 : decode cX10_init 35 = .ok (.return_, 1) := by decide +kernel
theorem dX10_clear_0 : decode cX10_clear 0 = .ok (.iconst 0, 1) := by decide +kernel
theorem dX10_clear_1 : decode cX10_clear 1 = .ok (.istore_n 1, 1) := by decide +kernel
theorem dX10_clear_2 : decode cX10_clear 2 = .ok (.iload_n 1, 1) := by decide +kernel
theorem dX10_clear_3 : decode cX10_clear 3 = .ok (.bipush 8, 2) := by decide +kernel
theorem dX10_clear_5 : decode cX10_clear 5 = .ok (.if_icmp .ge 23, 3) := by decide +kernel
theorem dX10_clear_8 : decode cX10_clear 8 = .ok (.aload_n 0, 1) := by decide +kernel
theorem dX10_clear_9 : decode cX10_clear 9 = .ok (.getfield 9, 3) := by decide +kernel
theorem dX10_clear_12 : decode cX10_clear 12 = .ok (.iload_n 1, 1) := by decide +kernel
theorem dX10_clear_13 : decode cX10_clear 13 = .ok (.iconst 0, 1) := by decide +kernel
theorem dX10_clear_14 : decode cX10_clear 14 = .ok (.iastore, 1) := by decide +kernel
theorem dX10_clear_15 : decode cX10_clear 15 = .ok (.aload_n 0, 1) := by decide +kernel
theorem dX10_clear_16 : decode cX10_clear 16 = .ok (.getfield 15, 3) := by decide +kernel
theorem dX10_clear_19 : decode cX10_clear 19 = .ok (.iload_n 1, 1) := by decide +kernel
theorem dX10_clear_20 : decode cX10_clear 20 = .ok (.iconst 0, 1) := by decide +kernel
theorem dX10_clear_21 : decode cX10_clear 21 = .ok (.iastore, 1) := by decide +kernel
theorem dX10_clear_22 : decode cX10_clear 22 = .ok (.iinc 1 1, 3) := by decide +kernel
theorem dX10_clear_25 : decode cX10_clear 25 = .ok (.goto (-23), 3) := by decide +kernel
theorem dX10_clear_28 : decode cX10_clear 28 = .ok (.aload_n 0, 1) := by decide +kernel
theorem dX10_clear_29 : decode cX10_clear 29 = .ok (.iconst 0, 1) := by decide +kernel
theorem dX10_clear_30 : decode cX10_clear 30 = .ok (.putfield 18, 3) := by decide +kernel
theorem dX10_clear_33 : decode cX10_clear 33 = .ok (.aload_n 0, 1) := by decide +kernel
theorem dX10_clear_34 : decode cX10_clear 34 = .ok (.iconst 0, 1) := by decide +kernel
theorem dX10_clear_35 : decode cX10_clear 35 = .ok (.putfield 22, 3) := by decide +kernel
theorem dX10_clear_38 : decode cX10_clear 38 = .ok (.aload_n 0, 1) := by decide +kernel
theorem dX10_clear_39 : decode cX10_clear 39 = .ok (.iconst 0, 1) := by decide +kernel
theorem dX10_clear_40 : decode cX10_clear 40 = .ok (.putfield 25, 3) := by decide +kernel
theorem dX10_clear_43 : decode cX10_clear 43 = .ok (.return_, 1) := by decide +kernel
theorem dX10_copyFrom_0 : decode cX10_copyFrom 0 = .ok (.aload_n 1, 1) := by decide +kernel
theorem dX10_copyFrom_1 : decode cX10_copyFrom 1 = .ok (.getfield 9, 3) := by decide +kernel
theorem dX10_copyFrom_4 : decode cX10_copyFrom 4 = .ok (.iconst 0, 1) := by decide +kernel
theorem dX10_copyFrom_5 : decode cX10_copyFrom 5 = .ok (.aload_n 0, 1) := by decide +kernel
theorem dX10_copyFrom_6 : decode cX10_copyFrom 6 = .ok (.getfield 9, 3) := by decide +kernel
theorem dX10_copyFrom_9 : decode cX10_copyFrom 9 = .ok (.iconst 0, 1) := by decide +kernel
theorem dX10_copyFrom_10 : decode cX10_copyFrom 10 = .ok (.bipush 8, 2) := by decide +kernel
theorem dX10_copyFrom_12 : decode cX10_copyFrom 12 = .ok (.invokestatic 28, 3) := by decide +kernel
theorem dX10_copyFrom_15 : decode cX10_copyFrom 15 = .ok (.aload_n 1, 1) := by decide +kernel
theorem dX10_copyFrom_16 : decode cX10_copyFrom 16 = .ok (.getfield 15, 3) := by decide +kernel
theorem dX10_copyFrom_19 : decode cX10_copyFrom 19 = .ok (.iconst 0, 1) := by decide +kernel
theorem dX10_copyFrom_20 : decode cX10_copyFrom 20 = .ok (.aload_n 0, 1) := by decide +kernel
theorem dX10_copyFrom_21 : decode cX10_copyFrom 21 = .ok (.getfield 15, 3) := by decide +kernel
theorem dX10_copyFrom_24 : decode cX10_copyFrom 24 = .ok (.iconst 0, 1) := by decide +kernel
theorem dX10_copyFrom_25 : decode cX10_copyFrom 25 = .ok (.bipush 8, 2) := by decide +kernel
theorem dX10_copyFrom_27 : decode cX10_copyFrom 27 = .ok (.invokestatic 28, 3) := by decide +kernel
theorem dX10_copyFrom_30 : decode cX10_copyFrom 30 = .ok (.aload_n 0, 1) := by decide +kernel
theorem dX10_copyFrom_31 : decode cX10_copyFrom 31 = .ok (.aload_n 1, 1) := by decide +kernel
theorem dX10_copyFrom_32 : decode cX10_copyFrom 32 = .ok (.getfield 18, 3) := by decide +kernel
theorem dX10_copyFrom_35 : decode cX10_copyFrom 35 = .ok (.putfield 18, 3) := by decide +kernel
theorem dX10_copyFrom_38 : decode cX10_copyFrom 38 = .ok (.aload_n 0, 1) := by decide +kernel
theorem dX10_copyFrom_39 : decode cX10_copyFrom 39 = .ok (.aload_n 1, 1) := by decide +kernel
theorem dX10_copyFrom_40 : decode cX10_copyFrom 40 = .ok (.getfield 22, 3) := by decide +kernel
theorem dX10_copyFrom_43 : decode cX10_copyFrom 43 = .ok (.putfield 22, 3) := by decide +kernel
theorem dX10_copyFrom_46 : decode cX10_copyFrom 46 = .ok (.aload_n 0, 1) := by decide +kernel
theorem dX10_copyFrom_47 : decode cX10_copyFrom 47 = .ok (.aload_n 1, 1) := by decide +kernel
theorem dX10_copyFrom_48 : decode cX10_copyFrom 48 = .ok (.getfield 25, 3) := by decide +kernel
theorem dX10_copyFrom_51 : decode cX10_copyFrom 51 = .ok (.putfield 25, 3) := by decide +kernel
theorem dX10_copyFrom_54 : decode cX10_copyFrom 54 = .ok (.return_, 1) := by decide +kernel
set_option maxRecDepth 20000 in
theorem ggX10_passDay_X10_addToRiver : GoodIn wsX10_passDay wsX10_addToRiver := goodIn_r _ [11, 12, 13, 14, 15, 16, 17, 24, 25, 26, 27, 28] (by decide +kernel) (by decide +kernel)
set_option maxRecDepth 20000 in
theorem gX10_passDay_X10_addToRiver : GoodIn wsX10_passDay (wsV RX10 45 RX10 yX10_addToRiver wsX10_addToRiver) := goodIn_app (goodIn_of _ (by decide +kernel)) ggX10_passDay_X10_addToRiver
set_option maxRecDepth 20000 in
theorem ggX10_passDay_X10_spillOver : GoodIn wsX10_passDay wsX10_spillOver := goodIn_r _ [21, 3, 6, 22, 12, 23, 14, 15, 16, 17, 29, 30, 31, 32, 33, 34, 35, 36, 24, 25, 26, 27, 28] (by decide +kernel) (by decide +kernel)
set_option maxRecDepth 20000 in
theorem gX10_passDay_X10_spillOver : GoodIn wsX10_passDay (wsV RX10 49 RX10 yX10_spillOver wsX10_spillOver) := goodIn_app (goodIn_of _ (by decide +kernel)) ggX10_passDay_X10_spillOver
theorem dX10_passDay_0 : decode cX10_passDay 0 = .ok (.aload_n 0, 1) := by decide +kernel
theorem dX10_passDay_1 : decode cX10_passDay 1 = .ok (.getfield 18, 3) := by decide +kernel
theorem dX10_passDay_4 : decode cX10_passDay 4 = .ok (.aload_n 1, 1) := by decide +kernel
theorem dX10_passDay_5 : decode cX10_passDay 5 = .ok (.getfield 34, 3) := by decide +kernel
theorem dX10_passDay_8 : decode cX10_passDay 8 = .ok (.if_icmp .ge 7, 3) := by decide +kernel
theorem dX10_passDay_11 : decode cX10_passDay 11 = .ok (.iconst 1, 1) := by decide +kernel
theorem dX10_passDay_12 : decode cX10_passDay 12 = .ok (.goto 4, 3) := by decide +kernel
theorem dX10_passDay_15 : decode cX10_passDay 15 = .ok (.iconst 0, 1) := by decide +kernel
theorem dX10_passDay_16 : decode cX10_passDay 16 = .ok (.istore 4, 2) := by decide +kernel
theorem dX10_passDay_18 : decode cX10_passDay 18 = .ok (.iconst 0, 1) := by decide +kernel
theorem dX10_passDay_19 : decode cX10_passDay 19 = .ok (.istore 5, 2) := by decide +kernel
theorem dX10_passDay_21 : decode cX10_passDay 21 = .ok (.iload 5, 2) := by decide +kernel
theorem dX10_passDay_23 : decode cX10_passDay 23 = .ok (.aload_n 1, 1) := by decide +kernel
theorem dX10_passDay_24 : decode cX10_passDay 24 = .ok (.getfield 39, 3) := by decide +kernel
theorem dX10_passDay_27 : decode cX10_passDay 27 = .ok (.if_icmp .ge 80, 3) := by decide +kernel
theorem dX10_passDay_30 : decode cX10_passDay 30 = .ok (.aload_n 1, 1) := by decide +kernel
theorem dX10_passDay_31 : decode cX10_passDay 31 = .ok (.getfield 42, 3) := by decide +kernel
theorem dX10_passDay_34 : decode cX10_passDay 34 = .ok (.iload 5, 2) := by decide +kernel
theorem dX10_passDay_36 : decode cX10_passDay 36 = .ok (.iaload, 1) := by decide +kernel
theorem dX10_passDay_37 : decode cX10_passDay 37 = .ok (.iload 5, 2) := by decide +kernel
theorem dX10_passDay_39 : decode cX10_passDay 39 = .ok (.iload_n 2, 1) := by decide +kernel
theorem dX10_passDay_40 : decode cX10_passDay 40 = .ok (.if_icmp .ne 7, 3) := by decide +kernel
theorem dX10_passDay_43 : decode cX10_passDay 43 = .ok (.iload_n 3, 1) := by decide +kernel
theorem dX10_passDay_44 : decode cX10_passDay 44 = .ok (.goto 4, 3) := by decide +kernel
theorem dX10_passDay_47 : decode cX10_passDay 47 = .ok (.iconst 0, 1) := by decide +kernel
theorem dX10_passDay_48 : decode cX10_passDay 48 = .ok (.iadd, 1) := by decide +kernel
theorem dX10_passDay_49 : decode cX10_passDay 49 = .ok (.istore 6, 2) := by decide +kernel
theorem dX10_passDay_51 : decode cX10_passDay 51 = .ok (.aload_n 0, 1) := by decide +kernel
theorem dX10_passDay_52 : decode cX10_passDay 52 = .ok (.getfield 15, 3) := by decide +kernel
theorem dX10_passDay_55 : decode cX10_passDay 55 = .ok (.iload 5, 2) := by decide +kernel
theorem dX10_passDay_57 : decode cX10_passDay 57 = .ok (.iaload, 1) := by decide +kernel
theorem dX10_passDay_58 : decode cX10_passDay 58 = .ok (.ifCond .le 17, 3) := by decide +kernel
theorem dX10_passDay_61 : decode cX10_passDay 61 = .ok (.aload_n 0, 1) := by decide +kernel
theorem dX10_passDay_62 : decode cX10_passDay 62 = .ok (.getfield 15, 3) := by decide +kernel
theorem dX10_passDay_65 : decode cX10_passDay 65 = .ok (.iload 5, 2) := by decide +kernel
theorem dX10_passDay_67 : decode cX10_passDay 67 = .ok (.dup2, 1) := by decide +kernel
theorem dX10_passDay_68 : decode cX10_passDay 68 = .ok (.iaload, 1) := by decide +kernel
theorem dX10_passDay_69 : decode cX10_passDay 69 = .ok (.iconst 1, 1) := by decide +kernel
theorem dX10_passDay_70 : decode cX10_passDay 70 = .ok (.isub, 1) := by decide +kernel
theorem dX10_passDay_71 : decode cX10_passDay 71 = .ok (.iastore, 1) := by decide +kernel
theorem dX10_passDay_72 : decode cX10_passDay 72 = .ok (.goto 29, 3) := by decide +kernel
theorem dX10_passDay_75 : decode cX10_passDay 75 = .ok (.iload 4, 2) := by decide +kernel
theorem dX10_passDay_77 : decode cX10_passDay 77 = .ok (.ifCond .eq 18, 3) := by decide +kernel
theorem dX10_passDay_80 : decode cX10_passDay 80 = .ok (.aload_n 0, 1) := by decide +kernel
theorem dX10_passDay_81 : decode cX10_passDay 81 = .ok (.getfield 9, 3) := by decide +kernel
theorem dX10_passDay_84 : decode cX10_passDay 84 = .ok (.iload 5, 2) := by decide +kernel
theorem dX10_passDay_86 : decode cX10_passDay 86 = .ok (.dup2, 1) := by decide +kernel
theorem dX10_passDay_87 : decode cX10_passDay 87 = .ok (.iaload, 1) := by decide +kernel
theorem dX10_passDay_88 : decode cX10_passDay 88 = .ok (.iload 6, 2) := by decide +kernel
theorem dX10_passDay_90 : decode cX10_passDay 90 = .ok (.iadd, 1) := by decide +kernel
theorem dX10_passDay_91 : decode cX10_passDay 91 = .ok (.iastore, 1) := by decide +kernel
theorem dX10_passDay_92 : decode cX10_passDay 92 = .ok (.goto 9, 3) := by decide +kernel
theorem dX10_passDay_95 : decode cX10_passDay 95 = .ok (.aload_n 0, 1) := by decide +kernel
theorem dX10_passDay_96 : decode cX10_passDay 96 = .ok (.iload 6, 2) := by decide +kernel
theorem dX10_passDay_98 : decode cX10_passDay 98 = .ok (.invokevirtual 45, 3) := by decide +kernel
theorem dX10_passDay_101 : decode cX10_passDay 101 = .ok (.iinc 5 1, 3) := by decide +kernel
theorem dX10_passDay_104 : decode cX10_passDay 104 = .ok (.goto (-83), 3) := by decide +kernel
theorem dX10_passDay_107 : decode cX10_passDay 107 = .ok (.aload_n 0, 1) := by decide +kernel
theorem dX10_passDay_108 : decode cX10_passDay 108 = .ok (.aload_n 1, 1) := by decide +kernel
theorem dX10_passDay_109 : decode cX10_passDay 109 = .ok (.invokevirtual 49, 3) := by decide +kernel
theorem dX10_passDay_112 : decode cX10_passDay 112 = .ok (.aload_n 0, 1) := by decide +kernel
theorem dX10_passDay_113 : decode cX10_passDay 113 = .ok (.dup, 1) := by decide +kernel
theorem dX10_passDay_114 : decode cX10_passDay 114 = .ok (.getfield 18, 3) := by decide +kernel
theorem dX10_passDay_117 : decode cX10_passDay 117 = .ok (.iconst 1, 1) := by decide +kernel
theorem dX10_passDay_118 : decode cX10_passDay 118 = .ok (.iadd, 1) := by decide +kernel
theorem dX10_passDay_119 : decode cX10_passDay 119 = .ok (.putfield 18, 3) := by decide +kernel
theorem dX10_passDay_122 : decode cX10_passDay 122 = .ok (.return_, 1) := by decide +kernel
set_option maxRecDepth 20000 in
theorem ggX10_passHour_X6_has : GoodIn wsX10_passHour wsX6_has := goodIn_r _ [13, 14, 28, 29, 30, 31, 32, 33, 34, 35] (by decide +kernel) (by decide +kernel)
set_option maxRecDepth 20000 in
theorem gX10_passHour_X6_has : GoodIn wsX10_passHour (wsV RX10 65 RX6 yX6_has wsX6_has) := goodIn_app (goodIn_of _ (by decide +kernel)) ggX10_passHour_X6_has
set_option maxRecDepth 20000 in
theorem ggX10_passHour_X10_addToRiver : GoodIn wsX10_passHour wsX10_addToRiver := goodIn_r _ [19, 20, 21, 4, 5, 6, 7, 36, 37, 38, 39, 40] (by decide +kernel) (by decide +kernel)
set_option maxRecDepth 20000 in
theorem gX10_passHour_X10_addToRiver : GoodIn wsX10_passHour (wsV RX10 45 RX10 yX10_addToRiver wsX10_addToRiver) := goodIn_app (goodIn_of _ (by decide +kernel)) ggX10_passHour_X10_addToRiver
set_option maxRecDepth 20000 in
theorem ggX10_passHour_X10_spillOver : GoodIn wsX10_passHour wsX10_spillOver := goodIn_r _ [25, 1, 3, 26, 20, 27, 4, 5, 6, 7, 28, 29, 30, 31, 32, 33, 34, 35, 36, 37, 38, 39, 40] (by decide +kernel) (by decide +kernel)
set_option maxRecDepth 20000 in
theorem gX10_passHour_X10_spillOver : GoodIn wsX10_passHour (wsV RX10 49 RX10 yX10_spillOver wsX10_spillOver) := goodIn_app (goodIn_of _ (by decide +kernel)) ggX10_passHour_X10_spillOver
theorem dX10_passHour_0 : decode cX10_passHour 0 = .ok (.iconst 0, 1) := by decide +kernel
theorem dX10_passHour_1 : decode cX10_passHour 1 = .ok (.istore_n 2, 1) := by decide +kernel
theorem dX10_passHour_2 : decode cX10_passHour 2 = .ok (.iload_n 2, 1) := by decide +kernel
theorem dX10_passHour_3 : decode cX10_passHour 3 = .ok (.aload_n 1, 1) := by decide +kernel
theorem dX10_passHour_4 : decode cX10_passHour 4 = .ok (.getfield 39, 3) := by decide +kernel
theorem dX10_passHour_7 : decode cX10_passHour 7 = .ok (.if_icmp .ge 69, 3) := by decide +kernel
theorem dX10_passHour_10 : decode cX10_passHour 10 = .ok (.aload_n 1, 1) := by decide +kernel
theorem dX10_passHour_11 : decode cX10_passHour 11 = .ok (.getfield 53, 3) := by decide +kernel
theorem dX10_passHour_14 : decode cX10_passHour 14 = .ok (.aload_n 0, 1) := by decide +kernel
theorem dX10_passHour_15 : decode cX10_passHour 15 = .ok (.getfield 9, 3) := by decide +kernel
theorem dX10_passHour_18 : decode cX10_passHour 18 = .ok (.iload_n 2, 1) := by decide +kernel
theorem dX10_passHour_19 : decode cX10_passHour 19 = .ok (.iaload, 1) := by decide +kernel
theorem dX10_passHour_20 : decode cX10_passHour 20 = .ok (.invokestatic 56, 3) := by decide +kernel
theorem dX10_passHour_23 : decode cX10_passHour 23 = .ok (.istore_n 3, 1) := by decide +kernel
theorem dX10_passHour_24 : decode cX10_passHour 24 = .ok (.aload_n 1, 1) := by decide +kernel
theorem dX10_passHour_25 : decode cX10_passHour 25 = .ok (.getfield 62, 3) := by decide +kernel
theorem dX10_passHour_28 : decode cX10_passHour 28 = .ok (.iload_n 2, 1) := by decide +kernel
theorem dX10_passHour_29 : decode cX10_passHour 29 = .ok (.iaload, 1) := by decide +kernel
theorem dX10_passHour_30 : decode cX10_passHour 30 = .ok (.istore 4, 2) := by decide +kernel
theorem dX10_passHour_32 : decode cX10_passHour 32 = .ok (.aload_n 0, 1) := by decide +kernel
theorem dX10_passHour_33 : decode cX10_passHour 33 = .ok (.getfield 9, 3) := by decide +kernel
theorem dX10_passHour_36 : decode cX10_passHour 36 = .ok (.iload_n 2, 1) := by decide +kernel
theorem dX10_passHour_37 : decode cX10_passHour 37 = .ok (.dup2, 1) := by decide +kernel
theorem dX10_passHour_38 : decode cX10_passHour 38 = .ok (.iaload, 1) := by decide +kernel
theorem dX10_passHour_39 : decode cX10_passHour 39 = .ok (.iload_n 3, 1) := by decide +kernel
theorem dX10_passHour_40 : decode cX10_passHour 40 = .ok (.isub, 1) := by decide +kernel
theorem dX10_passHour_41 : decode cX10_passHour 41 = .ok (.iastore, 1) := by decide +kernel
theorem dX10_passHour_42 : decode cX10_passHour 42 = .ok (.aload_n 1, 1) := by decide +kernel
theorem dX10_passHour_43 : decode cX10_passHour 43 = .ok (.iload 4, 2) := by decide +kernel
theorem dX10_passHour_45 : decode cX10_passHour 45 = .ok (.invokevirtual 65, 3) := by decide +kernel
theorem dX10_passHour_48 : decode cX10_passHour 48 = .ok (.ifCond .eq 17, 3) := by decide +kernel
theorem dX10_passHour_51 : decode cX10_passHour 51 = .ok (.aload_n 0, 1) := by decide +kernel
theorem dX10_passHour_52 : decode cX10_passHour 52 = .ok (.getfield 9, 3) := by decide +kernel
theorem dX10_passHour_55 : decode cX10_passHour 55 = .ok (.iload 4, 2) := by decide +kernel
theorem dX10_passHour_57 : decode cX10_passHour 57 = .ok (.dup2, 1) := by decide +kernel
theorem dX10_passHour_58 : decode cX10_passHour 58 = .ok (.iaload, 1) := by decide +kernel
theorem dX10_passHour_59 : decode cX10_passHour 59 = .ok (.iload_n 3, 1) := by decide +kernel
theorem dX10_passHour_60 : decode cX10_passHour 60 = .ok (.iadd, 1) := by decide +kernel
theorem dX10_passHour_61 : decode cX10_passHour 61 = .ok (.iastore, 1) := by decide +kernel
theorem dX10_passHour_62 : decode cX10_passHour 62 = .ok (.goto 8, 3) := by decide +kernel
theorem dX10_passHour_65 : decode cX10_passHour 65 = .ok (.aload_n 0, 1) := by decide +kernel
theorem dX10_passHour_66 : decode cX10_passHour 66 = .ok (.iload_n 3, 1) := by decide +kernel
theorem dX10_passHour_67 : decode cX10_passHour 67 = .ok (.invokevirtual 45, 3) := by decide +kernel
theorem dX10_passHour_70 : decode cX10_passHour 70 = .ok (.iinc 2 1, 3) := by decide +kernel
theorem dX10_passHour_73 : decode cX10_passHour 73 = .ok (.goto (-71), 3) := by decide +kernel
theorem dX10_passHour_76 : decode cX10_passHour 76 = .ok (.aload_n 0, 1) := by decide +kernel
theorem dX10_passHour_77 : decode cX10_passHour 77 = .ok (.aload_n 1, 1) := by decide +kernel
theorem dX10_passHour_78 : decode cX10_passHour 78 = .ok (.invokevirtual 49, 3) := by decide +kernel
theorem dX10_passHour_81 : decode cX10_passHour 81 = .ok (.return_, 1) := by decide +kernel
theorem dX10_spillOver_0 : decode cX10_spillOver 0 = .ok (.iconst 0, 1) := by decide +kernel
theorem dX10_spillOver_1 : decode cX10_spillOver 1 = .ok (.istore_n 2, 1) := by decide +kernel
theorem dX10_spillOver_2 : decode cX10_spillOver 2 = .ok (.iload_n 2, 1) := by decide +kernel
theorem dX10_spillOver_3 : decode cX10_spillOver 3 = .ok (.aload_n 1, 1) := by decide +kernel
theorem dX10_spillOver_4 : decode cX10_spillOver 4 = .ok (.getfield 39, 3) := by decide +kernel
theorem dX10_spillOver_7 : decode cX10_spillOver 7 = .ok (.if_icmp .ge 63, 3) := by decide +kernel
theorem dX10_spillOver_10 : decode cX10_spillOver 10 = .ok (.aload_n 0, 1) := by decide +kernel
theorem dX10_spillOver_11 : decode cX10_spillOver 11 = .ok (.getfield 9, 3) := by decide +kernel
theorem dX10_spillOver_14 : decode cX10_spillOver 14 = .ok (.iload_n 2, 1) := by decide +kernel
theorem dX10_spillOver_15 : decode cX10_spillOver 15 = .ok (.iaload, 1) := by decide +kernel
theorem dX10_spillOver_16 : decode cX10_spillOver 16 = .ok (.aload_n 1, 1) := by decide +kernel
theorem dX10_spillOver_17 : decode cX10_spillOver 17 = .ok (.getfield 69, 3) := by decide +kernel
theorem dX10_spillOver_20 : decode cX10_spillOver 20 = .ok (.iload_n 2, 1) := by decide +kernel
theorem dX10_spillOver_21 : decode cX10_spillOver 21 = .ok (.iaload, 1) := by decide +kernel
theorem dX10_spillOver_22 : decode cX10_spillOver 22 = .ok (.if_icmp .le 42, 3) := by decide +kernel
theorem dX10_spillOver_25 : decode cX10_spillOver 25 = .ok (.aload_n 0, 1) := by decide +kernel
theorem dX10_spillOver_26 : decode cX10_spillOver 26 = .ok (.ldc 72, 2) := by decide +kernel
theorem dX10_spillOver_28 : decode cX10_spillOver 28 = .ok (.aload_n 0, 1) := by decide +kernel
theorem dX10_spillOver_29 : decode cX10_spillOver 29 = .ok (.getfield 22, 3) := by decide +kernel
theorem dX10_spillOver_32 : decode cX10_spillOver 32 = .ok (.aload_n 0, 1) := by decide +kernel
theorem dX10_spillOver_33 : decode cX10_spillOver 33 = .ok (.getfield 9, 3) := by decide +kernel
theorem dX10_spillOver_36 : decode cX10_spillOver 36 = .ok (.iload_n 2, 1) := by decide +kernel
theorem dX10_spillOver_37 : decode cX10_spillOver 37 = .ok (.iaload, 1) := by decide +kernel
theorem dX10_spillOver_38 : decode cX10_spillOver 38 = .ok (.iadd, 1) := by decide +kernel
theorem dX10_spillOver_39 : decode cX10_spillOver 39 = .ok (.aload_n 1, 1) := by decide +kernel
theorem dX10_spillOver_40 : decode cX10_spillOver 40 = .ok (.getfield 69, 3) := by decide +kernel
theorem dX10_spillOver_43 : decode cX10_spillOver 43 = .ok (.iload_n 2, 1) := by decide +kernel
theorem dX10_spillOver_44 : decode cX10_spillOver 44 = .ok (.iaload, 1) := by decide +kernel
theorem dX10_spillOver_45 : decode cX10_spillOver 45 = .ok (.isub, 1) := by decide +kernel
theorem dX10_spillOver_46 : decode cX10_spillOver 46 = .ok (.invokestatic 56, 3) := by decide +kernel
theorem dX10_spillOver_49 : decode cX10_spillOver 49 = .ok (.putfield 22, 3) := by decide +kernel
theorem dX10_spillOver_52 : decode cX10_spillOver 52 = .ok (.aload_n 0, 1) := by decide +kernel
theorem dX10_spillOver_53 : decode cX10_spillOver 53 = .ok (.getfield 9, 3) := by decide +kernel
theorem dX10_spillOver_56 : decode cX10_spillOver 56 = .ok (.iload_n 2, 1) := by decide +kernel
theorem dX10_spillOver_57 : decode cX10_spillOver 57 = .ok (.aload_n 1, 1) := by decide +kernel
theorem dX10_spillOver_58 : decode cX10_spillOver 58 = .ok (.getfield 69, 3) := by decide +kernel
theorem dX10_spillOver_61 : decode cX10_spillOver 61 = .ok (.iload_n 2, 1) := by decide +kernel
theorem dX10_spillOver_62 : decode cX10_spillOver 62 = .ok (.iaload, 1) := by decide +kernel
theorem dX10_spillOver_63 : decode cX10_spillOver 63 = .ok (.iastore, 1) := by decide +kernel
theorem dX10_spillOver_64 : decode cX10_spillOver 64 = .ok (.iinc 2 1, 3) := by decide +kernel
theorem dX10_spillOver_67 : decode cX10_spillOver 67 = .ok (.goto (-65), 3) := by decide +kernel
theorem dX10_spillOver_70 : decode cX10_spillOver 70 = .ok (.return_, 1) := by decide +kernel
theorem dX10_addToRiver_0 : decode cX10_addToRiver 0 = .ok (.aload_n 0, 1) := by decide +kernel
theorem dX10_addToRiver_1 : decode cX10_addToRiver 1 = .ok (.ldc 72, 2) := by decide +kernel
theorem dX10_addToRiver_3 : decode cX10_addToRiver 3 = .ok (.aload_n 0, 1) := by decide +kernel
theorem dX10_addToRiver_4 : decode cX10_addToRiver 4 = .ok (.getfield 25, 3) := by decide +kernel
theorem dX10_addToRiver_7 : decode cX10_addToRiver 7 = .ok (.iload_n 1, 1) := by decide +kernel
theorem dX10_addToRiver_8 : decode cX10_addToRiver 8 = .ok (.iadd, 1) := by decide +kernel
theorem dX10_addToRiver_9 : decode cX10_addToRiver 9 = .ok (.invokestatic 56, 3) := by decide +kernel
theorem dX10_addToRiver_12 : decode cX10_addToRiver 12 = .ok (.putfield 25, 3) := by decide +kernel
theorem dX10_addToRiver_15 : decode cX10_addToRiver 15 = .ok (.return_, 1) := by decide +kernel
theorem dX10_inAll_0 : decode cX10_inAll 0 = .ok (.iconst 0, 1) := by decide +kernel
theorem dX10_inAll_1 : decode cX10_inAll 1 = .ok (.istore_n 2, 1) := by decide +kernel
theorem dX10_inAll_2 : decode cX10_inAll 2 = .ok (.iconst 0, 1) := by decide +kernel
theorem dX10_inAll_3 : decode cX10_inAll 3 = .ok (.istore_n 3, 1) := by decide +kernel
theorem dX10_inAll_4 : decode cX10_inAll 4 = .ok (.iload_n 3, 1) := by decide +kernel
theorem dX10_inAll_5 : decode cX10_inAll 5 = .ok (.aload_n 1, 1) := by decide +kernel
theorem dX10_inAll_6 : decode cX10_inAll 6 = .ok (.getfield 39, 3) := by decide +kernel
theorem dX10_inAll_9 : decode cX10_inAll 9 = .ok (.if_icmp .ge 18, 3) := by decide +kernel
theorem dX10_inAll_12 : decode cX10_inAll 12 = .ok (.iload_n 2, 1) := by decide +kernel
theorem dX10_inAll_13 : decode cX10_inAll 13 = .ok (.aload_n 0, 1) := by decide +kernel
theorem dX10_inAll_14 : decode cX10_inAll 14 = .ok (.getfield 9, 3) := by decide +kernel
theorem dX10_inAll_17 : decode cX10_inAll 17 = .ok (.iload_n 3, 1) := by decide +kernel
theorem dX10_inAll_18 : decode cX10_inAll 18 = .ok (.iaload, 1) := by decide +kernel
theorem dX10_inAll_19 : decode cX10_inAll 19 = .ok (.iadd, 1) := by decide +kernel
theorem dX10_inAll_20 : decode cX10_inAll 20 = .ok (.istore_n 2, 1) := by decide +kernel
theorem dX10_inAll_21 : decode cX10_inAll 21 = .ok (.iinc 3 1, 3) := by decide +kernel
theorem dX10_inAll_24 : decode cX10_inAll 24 = .ok (.goto (-20), 3) := by decide +kernel
theorem dX10_inAll_27 : decode cX10_inAll 27 = .ok (.iload_n 2, 1) := by decide +kernel
theorem dX10_inAll_28 : decode cX10_inAll 28 = .ok (.ireturn, 1) := by decide +kernel
theorem dX10_awaySet_0 : decode cX10_awaySet 0 = .ok (.iconst 0, 1) := by decide +kernel
theorem dX10_awaySet_1 : decode cX10_awaySet 1 = .ok (.istore_n 2, 1) := by decide +kernel
theorem dX10_awaySet_2 : decode cX10_awaySet 2 = .ok (.iconst 0, 1) := by decide +kernel
theorem dX10_awaySet_3 : decode cX10_awaySet 3 = .ok (.istore_n 3, 1) := by decide +kernel
theorem dX10_awaySet_4 : decode cX10_awaySet 4 = .ok (.iload_n 3, 1) := by decide +kernel
theorem dX10_awaySet_5 : decode cX10_awaySet 5 = .ok (.aload_n 1, 1) := by decide +kernel
theorem dX10_awaySet_6 : decode cX10_awaySet 6 = .ok (.getfield 39, 3) := by decide +kernel
theorem dX10_awaySet_9 : decode cX10_awaySet 9 = .ok (.if_icmp .ge 24, 3) := by decide +kernel
theorem dX10_awaySet_12 : decode cX10_awaySet 12 = .ok (.aload_n 0, 1) := by decide +kernel
theorem dX10_awaySet_13 : decode cX10_awaySet 13 = .ok (.getfield 15, 3) := by decide +kernel
theorem dX10_awaySet_16 : decode cX10_awaySet 16 = .ok (.iload_n 3, 1) := by decide +kernel
theorem dX10_awaySet_17 : decode cX10_awaySet 17 = .ok (.iaload, 1) := by decide +kernel
theorem dX10_awaySet_18 : decode cX10_awaySet 18 = .ok (.ifCond .le 9, 3) := by decide +kernel
theorem dX10_awaySet_21 : decode cX10_awaySet 21 = .ok (.iload_n 2, 1) := by decide +kernel
theorem dX10_awaySet_22 : decode cX10_awaySet 22 = .ok (.iconst 1, 1) := by decide +kernel
theorem dX10_awaySet_23 : decode cX10_awaySet 23 = .ok (.iload_n 3, 1) := by decide +kernel
theorem dX10_awaySet_24 : decode cX10_awaySet 24 = .ok (.ishl, 1) := by decide +kernel
theorem dX10_awaySet_25 : decode cX10_awaySet 25 = .ok (.ior, 1) := by decide +kernel
theorem dX10_awaySet_26 : decode cX10_awaySet 26 = .ok (.istore_n 2, 1) := by decide +kernel
theorem dX10_awaySet_27 : decode cX10_awaySet 27 = .ok (.iinc 3 1, 3) := by decide +kernel
theorem dX10_awaySet_30 : decode cX10_awaySet 30 = .ok (.goto (-26), 3) := by decide +kernel
theorem dX10_awaySet_33 : decode cX10_awaySet 33 = .ok (.iload_n 2, 1) := by decide +kernel
theorem dX10_awaySet_34 : decode cX10_awaySet 34 = .ok (.ireturn, 1) := by decide +kernel
set_option maxRecDepth 20000 in
theorem ggX11_init_X8_init : GoodIn wsX11_init wsX8_init := goodIn_r _ [47, 48, 2, 3, 49, 50, 51, 52, 53, 54, 128, 129, 130, 131, 132] (by decide +kernel) (by decide +kernel)
set_option maxRecDepth 20000 in
theorem gX11_init_X8_init_n9 : GoodIn wsX11_init (wsX8_init) := ggX11_init_X8_init
set_option maxRecDepth 20000 in
theorem ggX11_init_X6_init : GoodIn wsX11_init wsX6_init := goodIn_r _ [56, 57, 2, 3, 49, 58, 59, 60, 61, 145, 146, 147, 148, 149, 150, 151, 152] (by decide +kernel) (by decide +kernel)
set_option maxRecDepth 20000 in
theorem gX11_init_X6_init_n18 : GoodIn wsX11_init (wsX6_init) := ggX11_init_X6_init
set_option maxRecDepth 20000 in
theorem ggX11_init_X10_init : GoodIn wsX11_init wsX10_init := goodIn_r _ [63, 64, 2, 3, 49, 65, 66, 67, 68, 69, 153, 154, 155, 156, 157] (by decide +kernel) (by decide +kernel)
set_option maxRecDepth 20000 in
theorem gX11_init_X10_init_n28 : GoodIn wsX11_init (wsX10_init) := ggX11_init_X10_init
set_option maxRecDepth 20000 in
theorem ggX11_init_X2_init : GoodIn wsX11_init wsX2_init := goodIn_r _ [71, 72, 2, 3, 73, 74, 75, 76, 77, 78, 79, 80, 81, 82, 83, 84, 85, 86, 87, 49, 88, 179, 180, 158, 159, 160] (by decide +kernel) (by decide +kernel)
set_option maxRecDepth 20000 in
theorem gX11_init_X2_init_n38 : GoodIn wsX11_init (wsX2_init) := ggX11_init_X2_init
set_option maxRecDepth 20000 in
theorem ggX11_init_X3_init : GoodIn wsX11_init wsX3_init := goodIn_r _ [90, 91, 2, 3, 92, 74, 75, 93, 49, 94, 95, 96, 80, 81, 82, 83, 84, 85, 86, 87, 88, 179, 180, 161, 162, 163] (by decide +kernel) (by decide +kernel)
set_option maxRecDepth 20000 in
theorem gX11_init_X3_init_n45 : GoodIn wsX11_init (wsX3_init) := ggX11_init_X3_init
set_option maxRecDepth 20000 in
theorem ggX11_init_X1_init : GoodIn wsX11_init wsX1_init := goodIn_r _ [98, 99, 2, 3, 100, 164] (by decide +kernel) (by decide +kernel)
set_option maxRecDepth 20000 in
theorem gX11_init_X1_init_n52 : GoodIn wsX11_init (wsX1_init) := ggX11_init_X1_init
set_option maxRecDepth 20000 in
theorem ggX11_init_X5_init : GoodIn wsX11_init wsX5_init := goodIn_r _ [102, 103, 2, 3, 49, 104, 105, 106, 107, 108, 109, 110, 165, 166, 167, 168, 169, 170] (by decide +kernel) (by decide +kernel)
set_option maxRecDepth 20000 in
theorem gX11_init_X5_init_n59 : GoodIn wsX11_init (wsX5_init) := ggX11_init_X5_init
set_option maxRecDepth 20000 in
theorem ggX11_init_X0_init : GoodIn wsX11_init wsX0_init := goodIn_r _ [112, 113, 2, 3, 114, 115, 116, 171, 172, 173] (by decide +kernel) (by decide +kernel)
set_option maxRecDepth 20000 in
theorem gX11_init_X0_init_n66 : GoodIn wsX11_init (wsX0_init) := ggX11_init_X0_init
set_option maxRecDepth 20000 in
theorem ggX11_init_X7_init : GoodIn wsX11_init wsX7_init := goodIn_r _ [118, 119, 2, 3, 49, 120, 121, 122, 123, 174, 175, 176, 177] (by decide +kernel) (by decide +kernel)
set_option maxRecDepth 20000 in
theorem gX11_init_X7_init_n73 : GoodIn wsX11_init (wsX7_init) := ggX11_init_X7_init
set_option maxRecDepth 20000 in
theorem ggX11_init_X4_init : GoodIn wsX11_init wsX4_init := goodIn_r _ [125, 126, 2, 3, 49, 127, 178] (by decide +kernel) (by decide +kernel)
set_option maxRecDepth 20000 in
theorem gX11_init_X4_init_n80 : GoodIn wsX11_init (wsX4_init) := ggX11_init_X4_init
theorem dX11_init_0 : decode cX11_init 0 = .ok (.aload_n 0, 1) := by decide +kernel
theorem dX11_init_1 : decode cX11_init 1 = .ok (.invokespecial 1, 3) := by decide +kernel
theorem dX11_init_4 : decode cX11_init 4 = .ok (.aload_n 0, 1) := by decide +kernel
theorem dX11_init_5 : decode cX11_init 5 = .ok (.new 7, 3) := by decide +kernel
theorem dX11_init_8 : decode cX11_init 8 = .ok (.dup, 1) := by decide +kernel
theorem dX11_init_9 : decode cX11_init 9 = .ok (.invokespecial 9, 3) := by decide +kernel
theorem dX11_init_12 : decode cX11_init 12 = .ok (.putfield 10, 3) := by decide +kernel
theorem dX11_init_15 : decode cX11_init 15 = .ok (.aload_n 0, 1) := by decide +kernel
theorem dX11_init_16 : decode cX11_init 16 = .ok (.new 16, 3) := by decide +kernel
theorem dX11_init_19 : decode cX11_init 19 = .ok (.dup, 1) := by decide +kernel
theorem dX11_init_20 : decode cX11_init 20 = .ok (.invokespecial 18, 3) := by decide +kernel
theorem dX11_init_23 : decode cX11_init 23 = .ok (.putfield 19, 3) := by decide +kernel
theorem dX11_init_26 : decode cX11_init 26 = .ok (.aload_n 0, 1) := by decide +kernel
theorem dX11_init_27 : decode cX11_init 27 = .ok (.new 16, 3) := by decide +kernel
theorem dX11_init_30 : decode cX11_init 30 = .ok (.dup, 1) := by decide +kernel
theorem dX11_init_31 : decode cX11_init 31 = .ok (.invokespecial 18, 3) := by decide +kernel
theorem dX11_init_34 : decode cX11_init 34 = .ok (.putfield 23, 3) := by decide +kernel
theorem dX11_init_37 : decode cX11_init 37 = .ok (.aload_n 0, 1) := by decide +kernel
theorem dX11_init_38 : decode cX11_init 38 = .ok (.new 26, 3) := by decide +kernel
theorem dX11_init_41 : decode cX11_init 41 = .ok (.dup, 1) := by decide +kernel
theorem dX11_init_42 : decode cX11_init 42 = .ok (.invokespecial 28, 3) := by decide +kernel
theorem dX11_init_45 : decode cX11_init 45 = .ok (.putfield 29, 3) := by decide +kernel
theorem dX11_init_48 : decode cX11_init 48 = .ok (.aload_n 0, 1) := by decide +kernel
theorem dX11_init_49 : decode cX11_init 49 = .ok (.new 26, 3) := by decide +kernel
theorem dX11_init_52 : decode cX11_init 52 = .ok (.dup, 1) := by decide +kernel
theorem dX11_init_53 : decode cX11_init 53 = .ok (.invokespecial 28, 3) := by decide +kernel
theorem dX11_init_56 : decode cX11_init 56 = .ok (.putfield 33, 3) := by decide +kernel
theorem dX11_init_59 : decode cX11_init 59 = .ok (.aload_n 0, 1) := by decide +kernel
theorem dX11_init_60 : decode cX11_init 60 = .ok (.new 36, 3) := by decide +kernel
theorem dX11_init_63 : decode cX11_init 63 = .ok (.dup, 1) := by decide +kernel
theorem dX11_init_64 : decode cX11_init 64 = .ok (.invokespecial 38, 3) := by decide +kernel
theorem dX11_init_67 : decode cX11_init 67 = .ok (.putfield 39, 3) := by decide +kernel
theorem dX11_init_70 : decode cX11_init 70 = .ok (.aload_n 0, 1) := by decide +kernel
theorem dX11_init_71 : decode cX11_init 71 = .ok (.new 43, 3) := by decide +kernel
theorem dX11_init_74 : decode cX11_init 74 = .ok (.dup, 1) := by decide +kernel
theorem dX11_init_75 : decode cX11_init 75 = .ok (.invokespecial 45, 3) := by decide +kernel
theorem dX11_init_78 : decode cX11_init 78 = .ok (.putfield 46, 3) := by decide +kernel
theorem dX11_init_81 : decode cX11_init 81 = .ok (.aload_n 0, 1) := by decide +kernel
theorem dX11_init_82 : decode cX11_init 82 = .ok (.new 50, 3) := by decide +kernel
theorem dX11_init_85 : decode cX11_init 85 = .ok (.dup, 1) := by decide +kernel
theorem dX11_init_86 : decode cX11_init 86 = .ok (.invokespecial 52, 3) := by decide +kernel
theorem dX11_init_89 : decode cX11_init 89 = .ok (.putfield 53, 3) := by decide +kernel
theorem dX11_init_92 : decode cX11_init 92 = .ok (.aload_n 0, 1) := by decide +kernel
theorem dX11_init_93 : decode cX11_init 93 = .ok (.new 57, 3) := by decide +kernel
theorem dX11_init_96 : decode cX11_init 96 = .ok (.dup, 1) := by decide +kernel
theorem dX11_init_97 : decode cX11_init 97 = .ok (.invokespecial 59, 3) := by decide +kernel
theorem dX11_init_100 : decode cX11_init 100 = .ok (.putfield 60, 3) := by decide +kernel
theorem dX11_init_103 : decode cX11_init 103 = .ok (.aload_n 0, 1) := by decide +kernel
theorem dX11_init_104 : decode cX11_init 104 = .ok (.new 64, 3) := by decide +kernel
theorem dX11_init_107 : decode cX11_init 107 = .ok (.dup, 1) := by decide +kernel
theorem dX11_init_108 : decode cX11_init 108 = .ok (.invokespecial 66, 3) := by decide +kernel
theorem dX11_init_111 : decode cX11_init 111 = .ok (.putfield 67, 3) := by decide +kernel
theorem dX11_init_114 : decode cX11_init 114 = .ok (.aload_n 0, 1) := by decide +kernel
theorem dX11_init_115 : decode cX11_init 115 = .ok (.new 71, 3) := by decide +kernel
theorem dX11_init_118 : decode cX11_init 118 = .ok (.dup, 1) := by decide +kernel
theorem dX11_init_119 : decode cX11_init 119 = .ok (.invokespecial 73, 3) := by decide +kernel
theorem dX11_init_122 : decode cX11_init 122 = .ok (.putfield 74, 3) := by decide +kernel
theorem dX11_init_125 : decode cX11_init 125 = .ok (.aload_n 0, 1) := by decide +kernel
theorem dX11_init_126 : decode cX11_init 126 = .ok (.new 78, 3) := by decide +kernel
theorem dX11_init_129 : decode cX11_init 129 = .ok (.dup, 1) := by decide +kernel
theorem dX11_init_130 : decode cX11_init 130 = .ok (.invokespecial 80, 3) := by decide +kernel
theorem dX11_init_133 : decode cX11_init 133 = .ok (.putfield 81, 3) := by decide +kernel
theorem dX11_init_136 : decode cX11_init 136 = .ok (.return_, 1) := by decide +kernel
set_option maxRecDepth 20000 in
theorem ggX11_feed_X8_take : GoodIn wsX11_feed wsX8_take := goodIn_r _ [9, 10, 11, 24, 25, 26, 27, 28] (by decide +kernel) (by decide +kernel)
set_option maxRecDepth 20000 in
theorem gX11_feed_X8_take : GoodIn wsX11_feed (wsV RX11 86 RX8 yX8_take wsX8_take) := goodIn_app (goodIn_of _ (by decide +kernel)) ggX11_feed_X8_take
theorem dX11_feed_0 : decode cX11_feed 0 = .ok (.iload_n 1, 1) := by decide +kernel
theorem dX11_feed_1 : decode cX11_feed 1 = .ok (.ifCond .lt 10, 3) := by decide +kernel
theorem dX11_feed_4 : decode cX11_feed 4 = .ok (.iload_n 1, 1) := by decide +kernel
theorem dX11_feed_5 : decode cX11_feed 5 = .ok (.sipush 255, 3) := by decide +kernel
theorem dX11_feed_8 : decode cX11_feed 8 = .ok (.if_icmp .le 6, 3) := by decide +kernel
theorem dX11_feed_11 : decode cX11_feed 11 = .ok (.ldc 85, 2) := by decide +kernel
theorem dX11_feed_13 : decode cX11_feed 13 = .ok (.ireturn, 1) := by decide +kernel
theorem dX11_feed_14 : decode cX11_feed 14 = .ok (.aload_n 0, 1) := by decide +kernel
theorem dX11_feed_15 : decode cX11_feed 15 = .ok (.getfield 10, 3) := by decide +kernel
theorem dX11_feed_18 : decode cX11_feed 18 = .ok (.iload_n 1, 1) := by decide +kernel
theorem dX11_feed_19 : decode cX11_feed 19 = .ok (.invokevirtual 86, 3) := by decide +kernel
theorem dX11_feed_22 : decode cX11_feed 22 = .ok (.ifCond .eq 13, 3) := by decide +kernel
theorem dX11_feed_25 : decode cX11_feed 25 = .ok (.aload_n 0, 1) := by decide +kernel
theorem dX11_feed_26 : decode cX11_feed 26 = .ok (.getfield 10, 3) := by decide +kernel
theorem dX11_feed_29 : decode cX11_feed 29 = .ok (.getfield 90, 3) := by decide +kernel
theorem dX11_feed_32 : decode cX11_feed 32 = .ok (.goto 5, 3) := by decide +kernel
theorem dX11_feed_35 : decode cX11_feed 35 = .ok (.ldc 94, 2) := by decide +kernel
theorem dX11_feed_37 : decode cX11_feed 37 = .ok (.ireturn, 1) := by decide +kernel
set_option maxRecDepth 20000 in
theorem ggX11_town_X8_readInto : GoodIn wsX11_town wsX8_readInto := goodIn_r _ [14, 15, 16, 17, 18, 19, 20, 21, 22, 23, 24, 25, 26, 27, 28, 29, 30, 13, 31, 32, 33, 34, 35, 36, 37, 38, 39, 40, 41, 42, 43, 44, 45, 46, 47, 48, 49, 50, 51, 52, 53, 54, 55, 56, 57, 58, 59, 60, 61, 62, 63, 64, 65, 66, 67, 68, 69, 70, 71, 72, 73, 74, 75, 76, 77, 78, 79, 80, 81, 82, 83, 84, 85, 86, 133, 134, 135, 136, 137, 138, 139, 140, 141, 142, 143, 144, 145] (by decide +kernel) (by decide +kernel)
set_option maxRecDepth 20000 in
theorem gX11_town_X8_readInto : GoodIn wsX11_town (wsV RX11 95 RX8 yX8_readInto wsX8_readInto) := goodIn_app (goodIn_of _ (by decide +kernel)) ggX11_town_X8_readInto
set_option maxRecDepth 20000 in
theorem ggX11_town_X8_empty : GoodIn wsX11_town wsX8_empty := goodIn_r _ [90, 18, 133, 134, 135, 136, 137] (by decide +kernel) (by decide +kernel)
set_option maxRecDepth 20000 in
theorem gX11_town_X8_empty : GoodIn wsX11_town (wsV RX11 99 RX8 yX8_empty wsX8_empty) := goodIn_app (goodIn_of _ (by decide +kernel)) ggX11_town_X8_empty
set_option maxRecDepth 20000 in
theorem ggX11_town_X10_clear : GoodIn wsX11_town wsX10_clear := goodIn_r _ [95, 96, 97, 98, 99, 100, 146, 147, 148, 149, 150] (by decide +kernel) (by decide +kernel)
set_option maxRecDepth 20000 in
theorem gX11_town_X10_clear : GoodIn wsX11_town (wsV RX11 105 RX10 yX10_clear wsX10_clear) := goodIn_app (goodIn_of _ (by decide +kernel)) ggX11_town_X10_clear
set_option maxRecDepth 20000 in
theorem ggX11_town_X5_clear : GoodIn wsX11_town wsX5_clear := goodIn_r _ [105, 106, 107, 151, 152, 153, 154, 155, 156] (by decide +kernel) (by decide +kernel)
set_option maxRecDepth 20000 in
theorem gX11_town_X5_clear : GoodIn wsX11_town (wsV RX11 108 RX5 yX5_clear wsX5_clear) := goodIn_app (goodIn_of _ (by decide +kernel)) ggX11_town_X5_clear
set_option maxRecDepth 20000 in
theorem ggX11_town_X3_clear : GoodIn wsX11_town wsX3_clear := goodIn_r _ [112, 113, 157, 158, 159] (by decide +kernel) (by decide +kernel)
set_option maxRecDepth 20000 in
theorem gX11_town_X3_clear : GoodIn wsX11_town (wsV RX11 109 RX3 yX3_clear wsX3_clear) := goodIn_app (goodIn_of _ (by decide +kernel)) ggX11_town_X3_clear
set_option maxRecDepth 20000 in
theorem ggX11_town_X2_clear : GoodIn wsX11_town wsX2_clear := goodIn_r _ [118, 119, 120, 160, 161, 162] (by decide +kernel) (by decide +kernel)
set_option maxRecDepth 20000 in
theorem gX11_town_X2_clear : GoodIn wsX11_town (wsV RX11 110 RX2 yX2_clear wsX2_clear) := goodIn_app (goodIn_of _ (by decide +kernel)) ggX11_town_X2_clear
theorem dX11_town_0 : decode cX11_town 0 = .ok (.aload_n 0, 1) := by decide +kernel
theorem dX11_town_1 : decode cX11_town 1 = .ok (.getfield 10, 3) := by decide +kernel
theorem dX11_town_4 : decode cX11_town 4 = .ok (.aload_n 0, 1) := by decide +kernel
theorem dX11_town_5 : decode cX11_town 5 = .ok (.getfield 23, 3) := by decide +kernel
theorem dX11_town_8 : decode cX11_town 8 = .ok (.invokevirtual 95, 3) := by decide +kernel
theorem dX11_town_11 : decode cX11_town 11 = .ok (.aload_n 0, 1) := by decide +kernel
theorem dX11_town_12 : decode cX11_town 12 = .ok (.getfield 10, 3) := by decide +kernel
theorem dX11_town_15 : decode cX11_town 15 = .ok (.invokevirtual 99, 3) := by decide +kernel
theorem dX11_town_18 : decode cX11_town 18 = .ok (.aload_n 0, 1) := by decide +kernel
theorem dX11_town_19 : decode cX11_town 19 = .ok (.getfield 10, 3) := by decide +kernel
theorem dX11_town_22 : decode cX11_town 22 = .ok (.getfield 102, 3) := by decide +kernel
theorem dX11_town_25 : decode cX11_town 25 = .ok (.ifCond .eq 14, 3) := by decide +kernel
theorem dX11_town_28 : decode cX11_town 28 = .ok (.bipush (-10), 2) := by decide +kernel
theorem dX11_town_30 : decode cX11_town 30 = .ok (.aload_n 0, 1) := by decide +kernel
theorem dX11_town_31 : decode cX11_town 31 = .ok (.getfield 10, 3) := by decide +kernel
theorem dX11_town_34 : decode cX11_town 34 = .ok (.getfield 102, 3) := by decide +kernel
theorem dX11_town_37 : decode cX11_town 37 = .ok (.isub, 1) := by decide +kernel
theorem dX11_town_38 : decode cX11_town 38 = .ok (.ireturn, 1) := by decide +kernel
theorem dX11_town_39 : decode cX11_town 39 = .ok (.aload_n 0, 1) := by decide +kernel
theorem dX11_town_40 : decode cX11_town 40 = .ok (.getfield 19, 3) := by decide +kernel
theorem dX11_town_43 : decode cX11_town 43 = .ok (.astore_n 1, 1) := by decide +kernel
theorem dX11_town_44 : decode cX11_town 44 = .ok (.aload_n 0, 1) := by decide +kernel
theorem dX11_town_45 : decode cX11_town 45 = .ok (.aload_n 0, 1) := by decide +kernel
theorem dX11_town_46 : decode cX11_town 46 = .ok (.getfield 23, 3) := by decide +kernel
theorem dX11_town_49 : decode cX11_town 49 = .ok (.putfield 19, 3) := by decide +kernel
theorem dX11_town_52 : decode cX11_town 52 = .ok (.aload_n 0, 1) := by decide +kernel
theorem dX11_town_53 : decode cX11_town 53 = .ok (.aload_n 1, 1) := by decide +kernel
theorem dX11_town_54 : decode cX11_town 54 = .ok (.putfield 23, 3) := by decide +kernel
theorem dX11_town_57 : decode cX11_town 57 = .ok (.aload_n 0, 1) := by decide +kernel
theorem dX11_town_58 : decode cX11_town 58 = .ok (.getfield 29, 3) := by decide +kernel
theorem dX11_town_61 : decode cX11_town 61 = .ok (.invokevirtual 105, 3) := by decide +kernel
theorem dX11_town_64 : decode cX11_town 64 = .ok (.aload_n 0, 1) := by decide +kernel
theorem dX11_town_65 : decode cX11_town 65 = .ok (.getfield 60, 3) := by decide +kernel
theorem dX11_town_68 : decode cX11_town 68 = .ok (.invokevirtual 108, 3) := by decide +kernel
theorem dX11_town_71 : decode cX11_town 71 = .ok (.aload_n 0, 1) := by decide +kernel
theorem dX11_town_72 : decode cX11_town 72 = .ok (.getfield 46, 3) := by decide +kernel
theorem dX11_town_75 : decode cX11_town 75 = .ok (.invokevirtual 109, 3) := by decide +kernel
theorem dX11_town_78 : decode cX11_town 78 = .ok (.aload_n 0, 1) := by decide +kernel
theorem dX11_town_79 : decode cX11_town 79 = .ok (.getfield 39, 3) := by decide +kernel
theorem dX11_town_82 : decode cX11_town 82 = .ok (.invokevirtual 110, 3) := by decide +kernel
theorem dX11_town_85 : decode cX11_town 85 = .ok (.aload_n 0, 1) := by decide +kernel
theorem dX11_town_86 : decode cX11_town 86 = .ok (.getfield 19, 3) := by decide +kernel
theorem dX11_town_89 : decode cX11_town 89 = .ok (.getfield 111, 3) := by decide +kernel
theorem dX11_town_92 : decode cX11_town 92 = .ok (.ireturn, 1) := by decide +kernel
theorem dX11_fault_0 : decode cX11_fault 0 = .ok (.aload_n 0, 1) := by decide +kernel
theorem dX11_fault_1 : decode cX11_fault 1 = .ok (.getfield 10, 3) := by decide +kernel
theorem dX11_fault_4 : decode cX11_fault 4 = .ok (.getfield 114, 3) := by decide +kernel
theorem dX11_fault_7 : decode cX11_fault 7 = .ok (.ireturn, 1) := by decide +kernel
set_option maxRecDepth 20000 in
theorem ggX11_told_X11_isLent : GoodIn wsX11_told wsX11_isLent := goodIn_r _ [21, 7, 8, 1, 2, 34, 35, 36, 37, 38, 39, 40, 41, 42, 43, 44, 45, 59, 60, 61, 62, 63, 46, 47, 48, 49, 50, 51, 52, 53] (by decide +kernel) (by decide +kernel)
set_option maxRecDepth 20000 in
theorem gX11_told_X11_isLent : GoodIn wsX11_told (wsV RX11 126 RX11 yX11_isLent wsX11_isLent) := goodIn_app (goodIn_of _ (by decide +kernel)) ggX11_told_X11_isLent
set_option maxRecDepth 20000 in
theorem ggX11_told_X10_inAll : GoodIn wsX11_told wsX10_inAll := goodIn_r _ [26, 27, 28, 46, 47, 48, 49, 50, 51, 52, 53, 59, 60, 61, 62, 63] (by decide +kernel) (by decide +kernel)
set_option maxRecDepth 20000 in
theorem gX11_told_X10_inAll : GoodIn wsX11_told (wsV RX11 130 RX10 yX10_inAll wsX10_inAll) := goodIn_app (goodIn_of _ (by decide +kernel)) ggX11_told_X10_inAll
set_option maxRecDepth 20000 in
theorem ggX11_told_X10_awaySet : GoodIn wsX11_told wsX10_awaySet := goodIn_r _ [32, 27, 33, 46, 47, 48, 49, 50, 51, 52, 53, 59, 60, 61, 62, 63] (by decide +kernel) (by decide +kernel)
set_option maxRecDepth 20000 in
theorem gX11_told_X10_awaySet : GoodIn wsX11_told (wsV RX11 140 RX10 yX10_awaySet wsX10_awaySet) := goodIn_app (goodIn_of _ (by decide +kernel)) ggX11_told_X10_awaySet
theorem dX11_told_0 : decode cX11_told 0 = .ok (.iload_n 1, 1) := by decide +kernel
theorem dX11_told_1 : decode cX11_told 1 = .ok (.tableswitch 184 0 12 #[67, 75, 83, 91, 99, 107, 120, 132, 140, 148, 160, 168, 176], 67) := by decide +kernel
theorem dX11_told_68 : decode cX11_told 68 = .ok (.aload_n 0, 1) := by decide +kernel
theorem dX11_told_69 : decode cX11_told 69 = .ok (.getfield 19, 3) := by decide +kernel
theorem dX11_told_72 : decode cX11_told 72 = .ok (.getfield 117, 3) := by decide +kernel
theorem dX11_told_75 : decode cX11_told 75 = .ok (.ireturn, 1) := by decide +kernel
theorem dX11_told_76 : decode cX11_told 76 = .ok (.aload_n 0, 1) := by decide +kernel
theorem dX11_told_77 : decode cX11_told 77 = .ok (.getfield 19, 3) := by decide +kernel
theorem dX11_told_80 : decode cX11_told 80 = .ok (.getfield 120, 3) := by decide +kernel
theorem dX11_told_83 : decode cX11_told 83 = .ok (.ireturn, 1) := by decide +kernel
theorem dX11_told_84 : decode cX11_told 84 = .ok (.aload_n 0, 1) := by decide +kernel
theorem dX11_told_85 : decode cX11_told 85 = .ok (.getfield 19, 3) := by decide +kernel
theorem dX11_told_88 : decode cX11_told 88 = .ok (.getfield 111, 3) := by decide +kernel
theorem dX11_told_91 : decode cX11_told 91 = .ok (.ireturn, 1) := by decide +kernel
theorem dX11_told_92 : decode cX11_told 92 = .ok (.aload_n 0, 1) := by decide +kernel
theorem dX11_told_93 : decode cX11_told 93 = .ok (.getfield 10, 3) := by decide +kernel
theorem dX11_told_96 : decode cX11_told 96 = .ok (.getfield 90, 3) := by decide +kernel
theorem dX11_told_99 : decode cX11_told 99 = .ok (.ireturn, 1) := by decide +kernel
theorem dX11_told_100 : decode cX11_told 100 = .ok (.aload_n 0, 1) := by decide +kernel
theorem dX11_told_101 : decode cX11_told 101 = .ok (.getfield 29, 3) := by decide +kernel
theorem dX11_told_104 : decode cX11_told 104 = .ok (.getfield 123, 3) := by decide +kernel
theorem dX11_told_107 : decode cX11_told 107 = .ok (.ireturn, 1) := by decide +kernel
theorem dX11_told_108 : decode cX11_told 108 = .ok (.aload_n 0, 1) := by decide +kernel
theorem dX11_told_109 : decode cX11_told 109 = .ok (.invokevirtual 126, 3) := by decide +kernel
theorem dX11_told_112 : decode cX11_told 112 = .ok (.ifCond .eq 7, 3) := by decide +kernel
theorem dX11_told_115 : decode cX11_told 115 = .ok (.iconst 1, 1) := by decide +kernel
theorem dX11_told_116 : decode cX11_told 116 = .ok (.goto 4, 3) := by decide +kernel
theorem dX11_told_119 : decode cX11_told 119 = .ok (.iconst 0, 1) := by decide +kernel
theorem dX11_told_120 : decode cX11_told 120 = .ok (.ireturn, 1) := by decide +kernel
theorem dX11_told_121 : decode cX11_told 121 = .ok (.aload_n 0, 1) := by decide +kernel
theorem dX11_told_122 : decode cX11_told 122 = .ok (.getfield 29, 3) := by decide +kernel
theorem dX11_told_125 : decode cX11_told 125 = .ok (.aload_n 0, 1) := by decide +kernel
theorem dX11_told_126 : decode cX11_told 126 = .ok (.getfield 19, 3) := by decide +kernel
theorem dX11_told_129 : decode cX11_told 129 = .ok (.invokevirtual 130, 3) := by decide +kernel
theorem dX11_told_132 : decode cX11_told 132 = .ok (.ireturn, 1) := by decide +kernel
theorem dX11_told_133 : decode cX11_told 133 = .ok (.aload_n 0, 1) := by decide +kernel
theorem dX11_told_134 : decode cX11_told 134 = .ok (.getfield 29, 3) := by decide +kernel
theorem dX11_told_137 : decode cX11_told 137 = .ok (.getfield 134, 3) := by decide +kernel
theorem dX11_told_140 : decode cX11_told 140 = .ok (.ireturn, 1) := by decide +kernel
theorem dX11_told_141 : decode cX11_told 141 = .ok (.aload_n 0, 1) := by decide +kernel
theorem dX11_told_142 : decode cX11_told 142 = .ok (.getfield 29, 3) := by decide +kernel
theorem dX11_told_145 : decode cX11_told 145 = .ok (.getfield 137, 3) := by decide +kernel
theorem dX11_told_148 : decode cX11_told 148 = .ok (.ireturn, 1) := by decide +kernel
theorem dX11_told_149 : decode cX11_told 149 = .ok (.aload_n 0, 1) := by decide +kernel
theorem dX11_told_150 : decode cX11_told 150 = .ok (.getfield 29, 3) := by decide +kernel
theorem dX11_told_153 : decode cX11_told 153 = .ok (.aload_n 0, 1) := by decide +kernel
theorem dX11_told_154 : decode cX11_told 154 = .ok (.getfield 19, 3) := by decide +kernel
theorem dX11_told_157 : decode cX11_told 157 = .ok (.invokevirtual 140, 3) := by decide +kernel
theorem dX11_told_160 : decode cX11_told 160 = .ok (.ireturn, 1) := by decide +kernel
theorem dX11_told_161 : decode cX11_told 161 = .ok (.aload_n 0, 1) := by decide +kernel
theorem dX11_told_162 : decode cX11_told 162 = .ok (.getfield 60, 3) := by decide +kernel
theorem dX11_told_165 : decode cX11_told 165 = .ok (.getfield 143, 3) := by decide +kernel
theorem dX11_told_168 : decode cX11_told 168 = .ok (.ireturn, 1) := by decide +kernel
theorem dX11_told_169 : decode cX11_told 169 = .ok (.aload_n 0, 1) := by decide +kernel
theorem dX11_told_170 : decode cX11_told 170 = .ok (.getfield 60, 3) := by decide +kernel
theorem dX11_told_173 : decode cX11_told 173 = .ok (.getfield 146, 3) := by decide +kernel
theorem dX11_told_176 : decode cX11_told 176 = .ok (.ireturn, 1) := by decide +kernel
theorem dX11_told_177 : decode cX11_told 177 = .ok (.aload_n 0, 1) := by decide +kernel
theorem dX11_told_178 : decode cX11_told 178 = .ok (.getfield 39, 3) := by decide +kernel
theorem dX11_told_181 : decode cX11_told 181 = .ok (.getfield 149, 3) := by decide +kernel
theorem dX11_told_184 : decode cX11_told 184 = .ok (.ireturn, 1) := by decide +kernel
theorem dX11_told_185 : decode cX11_told 185 = .ok (.ldc 85, 2) := by decide +kernel
theorem dX11_told_187 : decode cX11_told 187 = .ok (.ireturn, 1) := by decide +kernel
set_option maxRecDepth 20000 in
theorem ggX11_house_X6_has : GoodIn wsX11_house wsX6_has := goodIn_r _ [15, 16, 29, 30, 31, 32, 33, 34, 35, 36] (by decide +kernel) (by decide +kernel)
set_option maxRecDepth 20000 in
theorem gX11_house_X6_has : GoodIn wsX11_house (wsV RX11 152 RX6 yX6_has wsX6_has) := goodIn_app (goodIn_of _ (by decide +kernel)) ggX11_house_X6_has
theorem dX11_house_0 : decode cX11_house 0 = .ok (.aload_n 0, 1) := by decide +kernel
theorem dX11_house_1 : decode cX11_house 1 = .ok (.getfield 19, 3) := by decide +kernel
theorem dX11_house_4 : decode cX11_house 4 = .ok (.iload_n 1, 1) := by decide +kernel
theorem dX11_house_5 : decode cX11_house 5 = .ok (.invokevirtual 152, 3) := by decide +kernel
theorem dX11_house_8 : decode cX11_house 8 = .ok (.ifCond .ne 6, 3) := by decide +kernel
theorem dX11_house_11 : decode cX11_house 11 = .ok (.ldc 155, 2) := by decide +kernel
theorem dX11_house_13 : decode cX11_house 13 = .ok (.ireturn, 1) := by decide +kernel
theorem dX11_house_14 : decode cX11_house 14 = .ok (.iload_n 2, 1) := by decide +kernel
theorem dX11_house_15 : decode cX11_house 15 = .ok (.tableswitch 97 0 5 #[37, 47, 57, 67, 77, 87], 37) := by decide +kernel
theorem dX11_house_52 : decode cX11_house 52 = .ok (.aload_n 0, 1) := by decide +kernel
theorem dX11_house_53 : decode cX11_house 53 = .ok (.getfield 19, 3) := by decide +kernel
theorem dX11_house_56 : decode cX11_house 56 = .ok (.getfield 156, 3) := by decide +kernel
theorem dX11_house_59 : decode cX11_house 59 = .ok (.iload_n 1, 1) := by decide +kernel
theorem dX11_house_60 : decode cX11_house 60 = .ok (.iaload, 1) := by decide +kernel
theorem dX11_house_61 : decode cX11_house 61 = .ok (.ireturn, 1) := by decide +kernel
theorem dX11_house_62 : decode cX11_house 62 = .ok (.aload_n 0, 1) := by decide +kernel
theorem dX11_house_63 : decode cX11_house 63 = .ok (.getfield 19, 3) := by decide +kernel
theorem dX11_house_66 : decode cX11_house 66 = .ok (.getfield 160, 3) := by decide +kernel
theorem dX11_house_69 : decode cX11_house 69 = .ok (.iload_n 1, 1) := by decide +kernel
theorem dX11_house_70 : decode cX11_house 70 = .ok (.iaload, 1) := by decide +kernel
theorem dX11_house_71 : decode cX11_house 71 = .ok (.ireturn, 1) := by decide +kernel
theorem dX11_house_72 : decode cX11_house 72 = .ok (.aload_n 0, 1) := by decide +kernel
theorem dX11_house_73 : decode cX11_house 73 = .ok (.getfield 19, 3) := by decide +kernel
theorem dX11_house_76 : decode cX11_house 76 = .ok (.getfield 163, 3) := by decide +kernel
theorem dX11_house_79 : decode cX11_house 79 = .ok (.iload_n 1, 1) := by decide +kernel
theorem dX11_house_80 : decode cX11_house 80 = .ok (.iaload, 1) := by decide +kernel
theorem dX11_house_81 : decode cX11_house 81 = .ok (.ireturn, 1) := by decide +kernel
theorem dX11_house_82 : decode cX11_house 82 = .ok (.aload_n 0, 1) := by decide +kernel
theorem dX11_house_83 : decode cX11_house 83 = .ok (.getfield 29, 3) := by decide +kernel
theorem dX11_house_86 : decode cX11_house 86 = .ok (.getfield 166, 3) := by decide +kernel
theorem dX11_house_89 : decode cX11_house 89 = .ok (.iload_n 1, 1) := by decide +kernel
theorem dX11_house_90 : decode cX11_house 90 = .ok (.iaload, 1) := by decide +kernel
theorem dX11_house_91 : decode cX11_house 91 = .ok (.ireturn, 1) := by decide +kernel
theorem dX11_house_92 : decode cX11_house 92 = .ok (.aload_n 0, 1) := by decide +kernel
theorem dX11_house_93 : decode cX11_house 93 = .ok (.getfield 29, 3) := by decide +kernel
theorem dX11_house_96 : decode cX11_house 96 = .ok (.getfield 169, 3) := by decide +kernel
theorem dX11_house_99 : decode cX11_house 99 = .ok (.iload_n 1, 1) := by decide +kernel
theorem dX11_house_100 : decode cX11_house 100 = .ok (.iaload, 1) := by decide +kernel
theorem dX11_house_101 : decode cX11_house 101 = .ok (.ireturn, 1) := by decide +kernel
theorem dX11_house_102 : decode cX11_house 102 = .ok (.aload_n 0, 1) := by decide +kernel
theorem dX11_house_103 : decode cX11_house 103 = .ok (.getfield 19, 3) := by decide +kernel
theorem dX11_house_106 : decode cX11_house 106 = .ok (.getfield 172, 3) := by decide +kernel
theorem dX11_house_109 : decode cX11_house 109 = .ok (.iload_n 1, 1) := by decide +kernel
theorem dX11_house_110 : decode cX11_house 110 = .ok (.iaload, 1) := by decide +kernel
theorem dX11_house_111 : decode cX11_house 111 = .ok (.ireturn, 1) := by decide +kernel
theorem dX11_house_112 : decode cX11_house 112 = .ok (.ldc 85, 2) := by decide +kernel
theorem dX11_house_114 : decode cX11_house 114 = .ok (.ireturn, 1) := by decide +kernel
set_option maxRecDepth 20000 in
theorem ggX11_day_X11_refuseDays : GoodIn wsX11_day wsX11_refuseDays := goodIn_r _ [8, 9, 3, 10, 11, 2, 12, 13, 70, 71, 72, 73, 74, 75, 76, 77, 78, 79, 80, 81, 82, 83, 84, 85, 86, 87, 88, 89, 90, 91, 92, 93, 94] (by decide +kernel) (by decide +kernel)
set_option maxRecDepth 20000 in
theorem gX11_day_X11_refuseDays : GoodIn wsX11_day (wsV RX11 175 RX11 yX11_refuseDays wsX11_refuseDays) := goodIn_app (goodIn_of _ (by decide +kernel)) ggX11_day_X11_refuseDays
set_option maxRecDepth 20000 in
theorem ggX11_day_X2_remember : GoodIn wsX11_day wsX2_remember := goodIn_r _ [18, 19, 20, 21, 22, 23, 24, 25, 26, 27, 28, 29, 30, 31, 32, 33, 34, 35, 36, 37, 38, 39, 40, 41, 95, 96, 97, 98, 99, 90, 91, 92, 93, 94] (by decide +kernel) (by decide +kernel)
set_option maxRecDepth 20000 in
theorem gX11_day_X2_remember : GoodIn wsX11_day (wsV RX11 179 RX2 yX2_remember wsX2_remember) := goodIn_app (goodIn_of _ (by decide +kernel)) ggX11_day_X2_remember
set_option maxRecDepth 20000 in
theorem ggX11_day_X10_passDay : GoodIn wsX11_day wsX10_passDay := goodIn_r _ [46, 47, 48, 49, 50, 51, 52, 53, 54, 55, 45, 56, 57, 58, 59, 23, 24, 25, 60, 61, 62, 63, 64, 65, 90, 91, 92, 93, 94, 82, 83, 84, 85, 86, 87, 88, 89] (by decide +kernel) (by decide +kernel)
set_option maxRecDepth 20000 in
theorem gX11_day_X10_passDay : GoodIn wsX11_day (wsV RX11 183 RX10 yX10_passDay wsX10_passDay) := goodIn_app (goodIn_of _ (by decide +kernel)) ggX11_day_X10_passDay
set_option maxRecDepth 20000 in
theorem ggX11_day_X10_inAll : GoodIn wsX11_day wsX10_inAll := goodIn_r _ [69, 49, 52, 82, 83, 84, 85, 86, 87, 88, 89, 90, 91, 92, 93, 94] (by decide +kernel) (by decide +kernel)
set_option maxRecDepth 20000 in
theorem gX11_day_X10_inAll : GoodIn wsX11_day (wsV RX11 130 RX10 yX10_inAll wsX10_inAll) := goodIn_app (goodIn_of _ (by decide +kernel)) ggX11_day_X10_inAll
theorem dX11_day_0 : decode cX11_day 0 = .ok (.aload_n 0, 1) := by decide +kernel
theorem dX11_day_1 : decode cX11_day 1 = .ok (.iload_n 1, 1) := by decide +kernel
theorem dX11_day_2 : decode cX11_day 2 = .ok (.invokevirtual 175, 3) := by decide +kernel
theorem dX11_day_5 : decode cX11_day 5 = .ok (.istore_n 2, 1) := by decide +kernel
theorem dX11_day_6 : decode cX11_day 6 = .ok (.iload_n 2, 1) := by decide +kernel
theorem dX11_day_7 : decode cX11_day 7 = .ok (.ifCond .eq 5, 3) := by decide +kernel
theorem dX11_day_10 : decode cX11_day 10 = .ok (.iload_n 2, 1) := by decide +kernel
theorem dX11_day_11 : decode cX11_day 11 = .ok (.ireturn, 1) := by decide +kernel
theorem dX11_day_12 : decode cX11_day 12 = .ok (.iconst 0, 1) := by decide +kernel
theorem dX11_day_13 : decode cX11_day 13 = .ok (.istore_n 3, 1) := by decide +kernel
theorem dX11_day_14 : decode cX11_day 14 = .ok (.iload_n 3, 1) := by decide +kernel
theorem dX11_day_15 : decode cX11_day 15 = .ok (.iload_n 1, 1) := by decide +kernel
theorem dX11_day_16 : decode cX11_day 16 = .ok (.if_icmp .ge 33, 3) := by decide +kernel
theorem dX11_day_19 : decode cX11_day 19 = .ok (.aload_n 0, 1) := by decide +kernel
theorem dX11_day_20 : decode cX11_day 20 = .ok (.getfield 39, 3) := by decide +kernel
theorem dX11_day_23 : decode cX11_day 23 = .ok (.aload_n 0, 1) := by decide +kernel
theorem dX11_day_24 : decode cX11_day 24 = .ok (.getfield 29, 3) := by decide +kernel
theorem dX11_day_27 : decode cX11_day 27 = .ok (.invokevirtual 179, 3) := by decide +kernel
theorem dX11_day_30 : decode cX11_day 30 = .ok (.aload_n 0, 1) := by decide +kernel
theorem dX11_day_31 : decode cX11_day 31 = .ok (.getfield 29, 3) := by decide +kernel
theorem dX11_day_34 : decode cX11_day 34 = .ok (.aload_n 0, 1) := by decide +kernel
theorem dX11_day_35 : decode cX11_day 35 = .ok (.getfield 19, 3) := by decide +kernel
theorem dX11_day_38 : decode cX11_day 38 = .ok (.iconst (-1), 1) := by decide +kernel
theorem dX11_day_39 : decode cX11_day 39 = .ok (.iconst 0, 1) := by decide +kernel
theorem dX11_day_40 : decode cX11_day 40 = .ok (.invokevirtual 183, 3) := by decide +kernel
theorem dX11_day_43 : decode cX11_day 43 = .ok (.iinc 3 1, 3) := by decide +kernel
theorem dX11_day_46 : decode cX11_day 46 = .ok (.goto (-32), 3) := by decide +kernel
theorem dX11_day_49 : decode cX11_day 49 = .ok (.aload_n 0, 1) := by decide +kernel
theorem dX11_day_50 : decode cX11_day 50 = .ok (.getfield 29, 3) := by decide +kernel
theorem dX11_day_53 : decode cX11_day 53 = .ok (.aload_n 0, 1) := by decide +kernel
theorem dX11_day_54 : decode cX11_day 54 = .ok (.getfield 19, 3) := by decide +kernel
theorem dX11_day_57 : decode cX11_day 57 = .ok (.invokevirtual 130, 3) := by decide +kernel
theorem dX11_day_60 : decode cX11_day 60 = .ok (.ireturn, 1) := by decide +kernel
set_option maxRecDepth 20000 in
theorem ggX11_pail_X6_has : GoodIn wsX11_pail wsX6_has := goodIn_r _ [13, 14, 60, 61, 62, 63, 64, 65, 66, 67] (by decide +kernel) (by decide +kernel)
set_option maxRecDepth 20000 in
theorem gX11_pail_X6_has : GoodIn wsX11_pail (wsV RX11 152 RX6 yX6_has wsX6_has) := goodIn_app (goodIn_of _ (by decide +kernel)) ggX11_pail_X6_has
set_option maxRecDepth 20000 in
theorem ggX11_pail_X2_remember : GoodIn wsX11_pail wsX2_remember := goodIn_r _ [19, 20, 21, 22, 23, 24, 25, 26, 27, 28, 29, 30, 31, 32, 33, 34, 35, 36, 37, 38, 39, 40, 41, 42, 68, 69, 70, 71, 72, 55, 56, 57, 58, 59] (by decide +kernel) (by decide +kernel)
set_option maxRecDepth 20000 in
theorem gX11_pail_X2_remember : GoodIn wsX11_pail (wsV RX11 179 RX2 yX2_remember wsX2_remember) := goodIn_app (goodIn_of _ (by decide +kernel)) ggX11_pail_X2_remember
theorem dX11_pail_0 : decode cX11_pail 0 = .ok (.aload_n 0, 1) := by decide +kernel
theorem dX11_pail_1 : decode cX11_pail 1 = .ok (.getfield 19, 3) := by decide +kernel
theorem dX11_pail_4 : decode cX11_pail 4 = .ok (.iload_n 1, 1) := by decide +kernel
theorem dX11_pail_5 : decode cX11_pail 5 = .ok (.invokevirtual 152, 3) := by decide +kernel
theorem dX11_pail_8 : decode cX11_pail 8 = .ok (.ifCond .eq 19, 3) := by decide +kernel
theorem dX11_pail_11 : decode cX11_pail 11 = .ok (.aload_n 0, 1) := by decide +kernel
theorem dX11_pail_12 : decode cX11_pail 12 = .ok (.getfield 19, 3) := by decide +kernel
theorem dX11_pail_15 : decode cX11_pail 15 = .ok (.iload_n 2, 1) := by decide +kernel
theorem dX11_pail_16 : decode cX11_pail 16 = .ok (.invokevirtual 152, 3) := by decide +kernel
theorem dX11_pail_19 : decode cX11_pail 19 = .ok (.ifCond .eq 8, 3) := by decide +kernel
theorem dX11_pail_22 : decode cX11_pail 22 = .ok (.iload_n 1, 1) := by decide +kernel
theorem dX11_pail_23 : decode cX11_pail 23 = .ok (.iload_n 2, 1) := by decide +kernel
theorem dX11_pail_24 : decode cX11_pail 24 = .ok (.if_icmp .ne 6, 3) := by decide +kernel
theorem dX11_pail_27 : decode cX11_pail 27 = .ok (.ldc 155, 2) := by decide +kernel
theorem dX11_pail_29 : decode cX11_pail 29 = .ok (.ireturn, 1) := by decide +kernel
theorem dX11_pail_30 : decode cX11_pail 30 = .ok (.iload_n 3, 1) := by decide +kernel
theorem dX11_pail_31 : decode cX11_pail 31 = .ok (.iconst 1, 1) := by decide +kernel
theorem dX11_pail_32 : decode cX11_pail 32 = .ok (.if_icmp .lt 10, 3) := by decide +kernel
theorem dX11_pail_35 : decode cX11_pail 35 = .ok (.iload_n 3, 1) := by decide +kernel
theorem dX11_pail_36 : decode cX11_pail 36 = .ok (.sipush 999, 3) := by decide +kernel
theorem dX11_pail_39 : decode cX11_pail 39 = .ok (.if_icmp .le 6, 3) := by decide +kernel
theorem dX11_pail_42 : decode cX11_pail 42 = .ok (.ldc 85, 2) := by decide +kernel
theorem dX11_pail_44 : decode cX11_pail 44 = .ok (.ireturn, 1) := by decide +kernel
theorem dX11_pail_45 : decode cX11_pail 45 = .ok (.aload_n 0, 1) := by decide +kernel
theorem dX11_pail_46 : decode cX11_pail 46 = .ok (.getfield 29, 3) := by decide +kernel
theorem dX11_pail_49 : decode cX11_pail 49 = .ok (.getfield 166, 3) := by decide +kernel
theorem dX11_pail_52 : decode cX11_pail 52 = .ok (.iload_n 1, 1) := by decide +kernel
theorem dX11_pail_53 : decode cX11_pail 53 = .ok (.iaload, 1) := by decide +kernel
theorem dX11_pail_54 : decode cX11_pail 54 = .ok (.iload_n 3, 1) := by decide +kernel
theorem dX11_pail_55 : decode cX11_pail 55 = .ok (.if_icmp .lt 26, 3) := by decide +kernel
theorem dX11_pail_58 : decode cX11_pail 58 = .ok (.aload_n 0, 1) := by decide +kernel
theorem dX11_pail_59 : decode cX11_pail 59 = .ok (.getfield 29, 3) := by decide +kernel
theorem dX11_pail_62 : decode cX11_pail 62 = .ok (.getfield 166, 3) := by decide +kernel
theorem dX11_pail_65 : decode cX11_pail 65 = .ok (.iload_n 2, 1) := by decide +kernel
theorem dX11_pail_66 : decode cX11_pail 66 = .ok (.iaload, 1) := by decide +kernel
theorem dX11_pail_67 : decode cX11_pail 67 = .ok (.iload_n 3, 1) := by decide +kernel
theorem dX11_pail_68 : decode cX11_pail 68 = .ok (.iadd, 1) := by decide +kernel
theorem dX11_pail_69 : decode cX11_pail 69 = .ok (.aload_n 0, 1) := by decide +kernel
theorem dX11_pail_70 : decode cX11_pail 70 = .ok (.getfield 19, 3) := by decide +kernel
theorem dX11_pail_73 : decode cX11_pail 73 = .ok (.getfield 156, 3) := by decide +kernel
theorem dX11_pail_76 : decode cX11_pail 76 = .ok (.iload_n 2, 1) := by decide +kernel
theorem dX11_pail_77 : decode cX11_pail 77 = .ok (.iaload, 1) := by decide +kernel
theorem dX11_pail_78 : decode cX11_pail 78 = .ok (.if_icmp .le 6, 3) := by decide +kernel
theorem dX11_pail_81 : decode cX11_pail 81 = .ok (.ldc 187, 2) := by decide +kernel
theorem dX11_pail_83 : decode cX11_pail 83 = .ok (.ireturn, 1) := by decide +kernel
theorem dX11_pail_84 : decode cX11_pail 84 = .ok (.aload_n 0, 1) := by decide +kernel
theorem dX11_pail_85 : decode cX11_pail 85 = .ok (.getfield 39, 3) := by decide +kernel
theorem dX11_pail_88 : decode cX11_pail 88 = .ok (.aload_n 0, 1) := by decide +kernel
theorem dX11_pail_89 : decode cX11_pail 89 = .ok (.getfield 29, 3) := by decide +kernel
theorem dX11_pail_92 : decode cX11_pail 92 = .ok (.invokevirtual 179, 3) := by decide +kernel
theorem dX11_pail_95 : decode cX11_pail 95 = .ok (.aload_n 0, 1) := by decide +kernel
theorem dX11_pail_96 : decode cX11_pail 96 = .ok (.getfield 29, 3) := by decide +kernel
theorem dX11_pail_99 : decode cX11_pail 99 = .ok (.getfield 166, 3) := by decide +kernel
theorem dX11_pail_102 : decode cX11_pail 102 = .ok (.iload_n 1, 1) := by decide +kernel
theorem dX11_pail_103 : decode cX11_pail 103 = .ok (.dup2, 1) := by decide +kernel
theorem dX11_pail_104 : decode cX11_pail 104 = .ok (.iaload, 1) := by decide +kernel
theorem dX11_pail_105 : decode cX11_pail 105 = .ok (.iload_n 3, 1) := by decide +kernel
theorem dX11_pail_106 : decode cX11_pail 106 = .ok (.isub, 1) := by decide +kernel
theorem dX11_pail_107 : decode cX11_pail 107 = .ok (.iastore, 1) := by decide +kernel
theorem dX11_pail_108 : decode cX11_pail 108 = .ok (.aload_n 0, 1) := by decide +kernel
theorem dX11_pail_109 : decode cX11_pail 109 = .ok (.getfield 29, 3) := by decide +kernel
theorem dX11_pail_112 : decode cX11_pail 112 = .ok (.getfield 166, 3) := by decide +kernel
theorem dX11_pail_115 : decode cX11_pail 115 = .ok (.iload_n 2, 1) := by decide +kernel
theorem dX11_pail_116 : decode cX11_pail 116 = .ok (.dup2, 1) := by decide +kernel
theorem dX11_pail_117 : decode cX11_pail 117 = .ok (.iaload, 1) := by decide +kernel
theorem dX11_pail_118 : decode cX11_pail 118 = .ok (.iload_n 3, 1) := by decide +kernel
theorem dX11_pail_119 : decode cX11_pail 119 = .ok (.iadd, 1) := by decide +kernel
theorem dX11_pail_120 : decode cX11_pail 120 = .ok (.iastore, 1) := by decide +kernel
theorem dX11_pail_121 : decode cX11_pail 121 = .ok (.aload_n 0, 1) := by decide +kernel
theorem dX11_pail_122 : decode cX11_pail 122 = .ok (.getfield 29, 3) := by decide +kernel
theorem dX11_pail_125 : decode cX11_pail 125 = .ok (.getfield 166, 3) := by decide +kernel
theorem dX11_pail_128 : decode cX11_pail 128 = .ok (.iload_n 2, 1) := by decide +kernel
theorem dX11_pail_129 : decode cX11_pail 129 = .ok (.iaload, 1) := by decide +kernel
theorem dX11_pail_130 : decode cX11_pail 130 = .ok (.ireturn, 1) := by decide +kernel
set_option maxRecDepth 20000 in
theorem ggX11_aunt_X6_has : GoodIn wsX11_aunt wsX6_has := goodIn_r _ [11, 12, 58, 59, 60, 61, 62, 63, 64, 65] (by decide +kernel) (by decide +kernel)
set_option maxRecDepth 20000 in
theorem gX11_aunt_X6_has : GoodIn wsX11_aunt (wsV RX11 152 RX6 yX6_has wsX6_has) := goodIn_app (goodIn_of _ (by decide +kernel)) ggX11_aunt_X6_has
set_option maxRecDepth 20000 in
theorem ggX11_aunt_X2_remember : GoodIn wsX11_aunt wsX2_remember := goodIn_r _ [17, 18, 19, 20, 21, 22, 23, 24, 25, 26, 27, 28, 29, 30, 31, 32, 33, 34, 35, 36, 37, 38, 39, 40, 66, 67, 68, 69, 70, 53, 54, 55, 56, 57] (by decide +kernel) (by decide +kernel)
set_option maxRecDepth 20000 in
theorem gX11_aunt_X2_remember : GoodIn wsX11_aunt (wsV RX11 179 RX2 yX2_remember wsX2_remember) := goodIn_app (goodIn_of _ (by decide +kernel)) ggX11_aunt_X2_remember
theorem dX11_aunt_0 : decode cX11_aunt 0 = .ok (.aload_n 0, 1) := by decide +kernel
theorem dX11_aunt_1 : decode cX11_aunt 1 = .ok (.getfield 19, 3) := by decide +kernel
theorem dX11_aunt_4 : decode cX11_aunt 4 = .ok (.iload_n 1, 1) := by decide +kernel
theorem dX11_aunt_5 : decode cX11_aunt 5 = .ok (.invokevirtual 152, 3) := by decide +kernel
theorem dX11_aunt_8 : decode cX11_aunt 8 = .ok (.ifCond .ne 6, 3) := by decide +kernel
theorem dX11_aunt_11 : decode cX11_aunt 11 = .ok (.ldc 155, 2) := by decide +kernel
theorem dX11_aunt_13 : decode cX11_aunt 13 = .ok (.ireturn, 1) := by decide +kernel
theorem dX11_aunt_14 : decode cX11_aunt 14 = .ok (.iload_n 2, 1) := by decide +kernel
theorem dX11_aunt_15 : decode cX11_aunt 15 = .ok (.ifCond .lt 9, 3) := by decide +kernel
theorem dX11_aunt_18 : decode cX11_aunt 18 = .ok (.iload_n 2, 1) := by decide +kernel
theorem dX11_aunt_19 : decode cX11_aunt 19 = .ok (.bipush 60, 2) := by decide +kernel
theorem dX11_aunt_21 : decode cX11_aunt 21 = .ok (.if_icmp .le 6, 3) := by decide +kernel
theorem dX11_aunt_24 : decode cX11_aunt 24 = .ok (.ldc 85, 2) := by decide +kernel
theorem dX11_aunt_26 : decode cX11_aunt 26 = .ok (.ireturn, 1) := by decide +kernel
theorem dX11_aunt_27 : decode cX11_aunt 27 = .ok (.aload_n 0, 1) := by decide +kernel
theorem dX11_aunt_28 : decode cX11_aunt 28 = .ok (.getfield 39, 3) := by decide +kernel
theorem dX11_aunt_31 : decode cX11_aunt 31 = .ok (.aload_n 0, 1) := by decide +kernel
theorem dX11_aunt_32 : decode cX11_aunt 32 = .ok (.getfield 29, 3) := by decide +kernel
theorem dX11_aunt_35 : decode cX11_aunt 35 = .ok (.invokevirtual 179, 3) := by decide +kernel
theorem dX11_aunt_38 : decode cX11_aunt 38 = .ok (.aload_n 0, 1) := by decide +kernel
theorem dX11_aunt_39 : decode cX11_aunt 39 = .ok (.getfield 29, 3) := by decide +kernel
theorem dX11_aunt_42 : decode cX11_aunt 42 = .ok (.getfield 169, 3) := by decide +kernel
theorem dX11_aunt_45 : decode cX11_aunt 45 = .ok (.iload_n 1, 1) := by decide +kernel
theorem dX11_aunt_46 : decode cX11_aunt 46 = .ok (.iaload, 1) := by decide +kernel
theorem dX11_aunt_47 : decode cX11_aunt 47 = .ok (.istore_n 3, 1) := by decide +kernel
theorem dX11_aunt_48 : decode cX11_aunt 48 = .ok (.aload_n 0, 1) := by decide +kernel
theorem dX11_aunt_49 : decode cX11_aunt 49 = .ok (.getfield 29, 3) := by decide +kernel
theorem dX11_aunt_52 : decode cX11_aunt 52 = .ok (.getfield 169, 3) := by decide +kernel
theorem dX11_aunt_55 : decode cX11_aunt 55 = .ok (.iload_n 1, 1) := by decide +kernel
theorem dX11_aunt_56 : decode cX11_aunt 56 = .ok (.iload_n 2, 1) := by decide +kernel
theorem dX11_aunt_57 : decode cX11_aunt 57 = .ok (.iastore, 1) := by decide +kernel
theorem dX11_aunt_58 : decode cX11_aunt 58 = .ok (.iload_n 3, 1) := by decide +kernel
theorem dX11_aunt_59 : decode cX11_aunt 59 = .ok (.ireturn, 1) := by decide +kernel
set_option maxRecDepth 20000 in
theorem ggX11_hour_X11_isLent : GoodIn wsX11_hour wsX11_isLent := goodIn_r _ [11, 6, 12, 2, 13, 74, 75, 76, 77, 78, 79, 80, 81, 82, 83, 84, 85, 94, 95, 96, 97, 98, 86, 87, 88, 89, 90, 91, 92, 93] (by decide +kernel) (by decide +kernel)
set_option maxRecDepth 20000 in
theorem gX11_hour_X11_isLent : GoodIn wsX11_hour (wsV RX11 126 RX11 yX11_isLent wsX11_isLent) := goodIn_app (goodIn_of _ (by decide +kernel)) ggX11_hour_X11_isLent
set_option maxRecDepth 20000 in
theorem ggX11_hour_X2_remember : GoodIn wsX11_hour wsX2_remember := goodIn_r _ [18, 19, 20, 21, 22, 23, 24, 25, 26, 27, 28, 29, 30, 31, 32, 33, 34, 35, 36, 37, 38, 39, 40, 41, 99, 100, 101, 102, 103, 94, 95, 96, 97, 98] (by decide +kernel) (by decide +kernel)
set_option maxRecDepth 20000 in
theorem gX11_hour_X2_remember : GoodIn wsX11_hour (wsV RX11 179 RX2 yX2_remember wsX2_remember) := goodIn_app (goodIn_of _ (by decide +kernel)) ggX11_hour_X2_remember
set_option maxRecDepth 20000 in
theorem ggX11_hour_X10_passHour : GoodIn wsX11_hour wsX10_passHour := goodIn_r _ [46, 47, 48, 49, 50, 23, 24, 25, 51, 52, 53, 54, 55, 56, 57, 58, 59, 60, 45, 61, 62, 63, 64, 65, 66, 67, 68, 69, 86, 87, 88, 89, 90, 91, 92, 93, 94, 95, 96, 97, 98] (by decide +kernel) (by decide +kernel)
set_option maxRecDepth 20000 in
theorem gX11_hour_X10_passHour : GoodIn wsX11_hour (wsV RX11 192 RX10 yX10_passHour wsX10_passHour) := goodIn_app (goodIn_of _ (by decide +kernel)) ggX11_hour_X10_passHour
set_option maxRecDepth 20000 in
theorem ggX11_hour_X10_inAll : GoodIn wsX11_hour wsX10_inAll := goodIn_r _ [73, 47, 49, 86, 87, 88, 89, 90, 91, 92, 93, 94, 95, 96, 97, 98] (by decide +kernel) (by decide +kernel)
set_option maxRecDepth 20000 in
theorem gX11_hour_X10_inAll : GoodIn wsX11_hour (wsV RX11 130 RX10 yX10_inAll wsX10_inAll) := goodIn_app (goodIn_of _ (by decide +kernel)) ggX11_hour_X10_inAll
theorem dX11_hour_0 : decode cX11_hour 0 = .ok (.iload_n 1, 1) := by decide +kernel
theorem dX11_hour_1 : decode cX11_hour 1 = .ok (.iconst 1, 1) := by decide +kernel
theorem dX11_hour_2 : decode cX11_hour 2 = .ok (.if_icmp .lt 9, 3) := by decide +kernel
theorem dX11_hour_5 : decode cX11_hour 5 = .ok (.iload_n 1, 1) := by decide +kernel
theorem dX11_hour_6 : decode cX11_hour 6 = .ok (.bipush 30, 2) := by decide +kernel
theorem dX11_hour_8 : decode cX11_hour 8 = .ok (.if_icmp .le 6, 3) := by decide +kernel
theorem dX11_hour_11 : decode cX11_hour 11 = .ok (.ldc 85, 2) := by decide +kernel
theorem dX11_hour_13 : decode cX11_hour 13 = .ok (.ireturn, 1) := by decide +kernel
theorem dX11_hour_14 : decode cX11_hour 14 = .ok (.aload_n 0, 1) := by decide +kernel
theorem dX11_hour_15 : decode cX11_hour 15 = .ok (.getfield 19, 3) := by decide +kernel
theorem dX11_hour_18 : decode cX11_hour 18 = .ok (.getfield 188, 3) := by decide +kernel
theorem dX11_hour_21 : decode cX11_hour 21 = .ok (.ifCond .eq 10, 3) := by decide +kernel
theorem dX11_hour_24 : decode cX11_hour 24 = .ok (.aload_n 0, 1) := by decide +kernel
theorem dX11_hour_25 : decode cX11_hour 25 = .ok (.invokevirtual 126, 3) := by decide +kernel
theorem dX11_hour_28 : decode cX11_hour 28 = .ok (.ifCond .eq 6, 3) := by decide +kernel
theorem dX11_hour_31 : decode cX11_hour 31 = .ok (.ldc 187, 2) := by decide +kernel
theorem dX11_hour_33 : decode cX11_hour 33 = .ok (.ireturn, 1) := by decide +kernel
theorem dX11_hour_34 : decode cX11_hour 34 = .ok (.iconst 0, 1) := by decide +kernel
theorem dX11_hour_35 : decode cX11_hour 35 = .ok (.istore_n 2, 1) := by decide +kernel
theorem dX11_hour_36 : decode cX11_hour 36 = .ok (.iload_n 2, 1) := by decide +kernel
theorem dX11_hour_37 : decode cX11_hour 37 = .ok (.iload_n 1, 1) := by decide +kernel
theorem dX11_hour_38 : decode cX11_hour 38 = .ok (.if_icmp .ge 31, 3) := by decide +kernel
theorem dX11_hour_41 : decode cX11_hour 41 = .ok (.aload_n 0, 1) := by decide +kernel
theorem dX11_hour_42 : decode cX11_hour 42 = .ok (.getfield 39, 3) := by decide +kernel
theorem dX11_hour_45 : decode cX11_hour 45 = .ok (.aload_n 0, 1) := by decide +kernel
theorem dX11_hour_46 : decode cX11_hour 46 = .ok (.getfield 29, 3) := by decide +kernel
theorem dX11_hour_49 : decode cX11_hour 49 = .ok (.invokevirtual 179, 3) := by decide +kernel
theorem dX11_hour_52 : decode cX11_hour 52 = .ok (.aload_n 0, 1) := by decide +kernel
theorem dX11_hour_53 : decode cX11_hour 53 = .ok (.getfield 29, 3) := by decide +kernel
theorem dX11_hour_56 : decode cX11_hour 56 = .ok (.aload_n 0, 1) := by decide +kernel
theorem dX11_hour_57 : decode cX11_hour 57 = .ok (.getfield 19, 3) := by decide +kernel
theorem dX11_hour_60 : decode cX11_hour 60 = .ok (.invokevirtual 192, 3) := by decide +kernel
theorem dX11_hour_63 : decode cX11_hour 63 = .ok (.iinc 2 1, 3) := by decide +kernel
theorem dX11_hour_66 : decode cX11_hour 66 = .ok (.goto (-30), 3) := by decide +kernel
theorem dX11_hour_69 : decode cX11_hour 69 = .ok (.aload_n 0, 1) := by decide +kernel
theorem dX11_hour_70 : decode cX11_hour 70 = .ok (.getfield 29, 3) := by decide +kernel
theorem dX11_hour_73 : decode cX11_hour 73 = .ok (.aload_n 0, 1) := by decide +kernel
theorem dX11_hour_74 : decode cX11_hour 74 = .ok (.getfield 19, 3) := by decide +kernel
theorem dX11_hour_77 : decode cX11_hour 77 = .ok (.invokevirtual 130, 3) := by decide +kernel
theorem dX11_hour_80 : decode cX11_hour 80 = .ok (.ireturn, 1) := by decide +kernel
set_option maxRecDepth 20000 in
theorem ggX11_drift_X11_refuseDays : GoodIn wsX11_drift wsX11_refuseDays := goodIn_r _ [8, 9, 3, 10, 11, 2, 12, 13, 93, 94, 95, 96, 97, 98, 99, 100, 101, 102, 103, 104, 105, 106, 107, 108, 109, 110, 111, 112, 113, 114, 115, 116, 117] (by decide +kernel) (by decide +kernel)
set_option maxRecDepth 20000 in
theorem gX11_drift_X11_refuseDays : GoodIn wsX11_drift (wsV RX11 175 RX11 yX11_refuseDays wsX11_refuseDays) := goodIn_app (goodIn_of _ (by decide +kernel)) ggX11_drift_X11_refuseDays
set_option maxRecDepth 20000 in
theorem ggX11_drift_X2_remember : GoodIn wsX11_drift wsX2_remember := goodIn_r _ [18, 19, 20, 21, 22, 23, 24, 25, 26, 27, 28, 29, 30, 31, 32, 33, 34, 35, 36, 37, 38, 39, 40, 41, 118, 119, 120, 121, 122, 113, 114, 115, 116, 117] (by decide +kernel) (by decide +kernel)
set_option maxRecDepth 20000 in
theorem gX11_drift_X2_remember : GoodIn wsX11_drift (wsV RX11 179 RX2 yX2_remember wsX2_remember) := goodIn_app (goodIn_of _ (by decide +kernel)) ggX11_drift_X2_remember
set_option maxRecDepth 20000 in
theorem ggX11_drift_X11_driftDay : GoodIn wsX11_drift wsX11_driftDay := goodIn_r _ [45, 3, 46, 47, 2, 48, 49, 50, 51, 52, 53, 54, 55, 56, 57, 58, 59, 60, 61, 62, 63, 64, 65, 66, 67, 68, 69, 70, 71, 72, 73, 74, 75, 76, 77, 78, 79, 80, 81, 82, 23, 24, 25, 83, 84, 85, 86, 87, 88, 93, 94, 95, 96, 97, 98, 99, 100, 101, 102, 103, 104, 105, 106, 107, 108, 109, 110, 111, 112, 113, 114, 115, 116, 117, 123] (by decide +kernel) (by decide +kernel)
set_option maxRecDepth 20000 in
theorem gX11_drift_X11_driftDay : GoodIn wsX11_drift (wsV RX11 195 RX11 yX11_driftDay wsX11_driftDay) := goodIn_app (goodIn_of _ (by decide +kernel)) ggX11_drift_X11_driftDay
set_option maxRecDepth 20000 in
theorem ggX11_drift_X10_inAll : GoodIn wsX11_drift wsX10_inAll := goodIn_r _ [92, 72, 75, 105, 106, 107, 108, 109, 110, 111, 112, 113, 114, 115, 116, 117] (by decide +kernel) (by decide +kernel)
set_option maxRecDepth 20000 in
theorem gX11_drift_X10_inAll : GoodIn wsX11_drift (wsV RX11 130 RX10 yX10_inAll wsX10_inAll) := goodIn_app (goodIn_of _ (by decide +kernel)) ggX11_drift_X10_inAll
theorem dX11_drift_0 : decode cX11_drift 0 = .ok (.aload_n 0, 1) := by decide +kernel
theorem dX11_drift_1 : decode cX11_drift 1 = .ok (.iload_n 1, 1) := by decide +kernel
theorem dX11_drift_2 : decode cX11_drift 2 = .ok (.invokevirtual 175, 3) := by decide +kernel
theorem dX11_drift_5 : decode cX11_drift 5 = .ok (.istore_n 2, 1) := by decide +kernel
theorem dX11_drift_6 : decode cX11_drift 6 = .ok (.iload_n 2, 1) := by decide +kernel
theorem dX11_drift_7 : decode cX11_drift 7 = .ok (.ifCond .eq 5, 3) := by decide +kernel
theorem dX11_drift_10 : decode cX11_drift 10 = .ok (.iload_n 2, 1) := by decide +kernel
theorem dX11_drift_11 : decode cX11_drift 11 = .ok (.ireturn, 1) := by decide +kernel
theorem dX11_drift_12 : decode cX11_drift 12 = .ok (.iconst 0, 1) := by decide +kernel
theorem dX11_drift_13 : decode cX11_drift 13 = .ok (.istore_n 3, 1) := by decide +kernel
theorem dX11_drift_14 : decode cX11_drift 14 = .ok (.iload_n 3, 1) := by decide +kernel
theorem dX11_drift_15 : decode cX11_drift 15 = .ok (.iload_n 1, 1) := by decide +kernel
theorem dX11_drift_16 : decode cX11_drift 16 = .ok (.if_icmp .ge 24, 3) := by decide +kernel
theorem dX11_drift_19 : decode cX11_drift 19 = .ok (.aload_n 0, 1) := by decide +kernel
theorem dX11_drift_20 : decode cX11_drift 20 = .ok (.getfield 39, 3) := by decide +kernel
theorem dX11_drift_23 : decode cX11_drift 23 = .ok (.aload_n 0, 1) := by decide +kernel
theorem dX11_drift_24 : decode cX11_drift 24 = .ok (.getfield 29, 3) := by decide +kernel
theorem dX11_drift_27 : decode cX11_drift 27 = .ok (.invokevirtual 179, 3) := by decide +kernel
theorem dX11_drift_30 : decode cX11_drift 30 = .ok (.aload_n 0, 1) := by decide +kernel
theorem dX11_drift_31 : decode cX11_drift 31 = .ok (.invokevirtual 195, 3) := by decide +kernel
theorem dX11_drift_34 : decode cX11_drift 34 = .ok (.iinc 3 1, 3) := by decide +kernel
theorem dX11_drift_37 : decode cX11_drift 37 = .ok (.goto (-23), 3) := by decide +kernel
theorem dX11_drift_40 : decode cX11_drift 40 = .ok (.aload_n 0, 1) := by decide +kernel
theorem dX11_drift_41 : decode cX11_drift 41 = .ok (.getfield 29, 3) := by decide +kernel
theorem dX11_drift_44 : decode cX11_drift 44 = .ok (.aload_n 0, 1) := by decide +kernel
theorem dX11_drift_45 : decode cX11_drift 45 = .ok (.getfield 19, 3) := by decide +kernel
theorem dX11_drift_48 : decode cX11_drift 48 = .ok (.invokevirtual 130, 3) := by decide +kernel
theorem dX11_drift_51 : decode cX11_drift 51 = .ok (.ireturn, 1) := by decide +kernel
set_option maxRecDepth 20000 in
theorem ggX11_undo_X2_restore : GoodIn wsX11_undo wsX2_restore := goodIn_r _ [10, 11, 12, 13, 14, 15, 16, 17, 18, 19, 20, 21, 22, 23, 24, 25, 26, 27, 28, 29, 47, 48, 49, 50, 51, 42, 43, 44, 45, 46] (by decide +kernel) (by decide +kernel)
set_option maxRecDepth 20000 in
theorem gX11_undo_X2_restore : GoodIn wsX11_undo (wsV RX11 198 RX2 yX2_restore wsX2_restore) := goodIn_app (goodIn_of _ (by decide +kernel)) ggX11_undo_X2_restore
theorem dX11_undo_0 : decode cX11_undo 0 = .ok (.iload_n 1, 1) := by decide +kernel
theorem dX11_undo_1 : decode cX11_undo 1 = .ok (.iconst 1, 1) := by decide +kernel
theorem dX11_undo_2 : decode cX11_undo 2 = .ok (.if_icmp .lt 9, 3) := by decide +kernel
theorem dX11_undo_5 : decode cX11_undo 5 = .ok (.iload_n 1, 1) := by decide +kernel
theorem dX11_undo_6 : decode cX11_undo 6 = .ok (.bipush 30, 2) := by decide +kernel
theorem dX11_undo_8 : decode cX11_undo 8 = .ok (.if_icmp .le 6, 3) := by decide +kernel
theorem dX11_undo_11 : decode cX11_undo 11 = .ok (.ldc 85, 2) := by decide +kernel
theorem dX11_undo_13 : decode cX11_undo 13 = .ok (.ireturn, 1) := by decide +kernel
theorem dX11_undo_14 : decode cX11_undo 14 = .ok (.aload_n 0, 1) := by decide +kernel
theorem dX11_undo_15 : decode cX11_undo 15 = .ok (.getfield 39, 3) := by decide +kernel
theorem dX11_undo_18 : decode cX11_undo 18 = .ok (.iload_n 1, 1) := by decide +kernel
theorem dX11_undo_19 : decode cX11_undo 19 = .ok (.aload_n 0, 1) := by decide +kernel
theorem dX11_undo_20 : decode cX11_undo 20 = .ok (.getfield 29, 3) := by decide +kernel
theorem dX11_undo_23 : decode cX11_undo 23 = .ok (.invokevirtual 198, 3) := by decide +kernel
theorem dX11_undo_26 : decode cX11_undo 26 = .ok (.ifCond .eq 13, 3) := by decide +kernel
theorem dX11_undo_29 : decode cX11_undo 29 = .ok (.aload_n 0, 1) := by decide +kernel
theorem dX11_undo_30 : decode cX11_undo 30 = .ok (.getfield 29, 3) := by decide +kernel
theorem dX11_undo_33 : decode cX11_undo 33 = .ok (.getfield 123, 3) := by decide +kernel
theorem dX11_undo_36 : decode cX11_undo 36 = .ok (.goto 5, 3) := by decide +kernel
theorem dX11_undo_39 : decode cX11_undo 39 = .ok (.ldc 187, 2) := by decide +kernel
theorem dX11_undo_41 : decode cX11_undo 41 = .ok (.ireturn, 1) := by decide +kernel
set_option maxRecDepth 20000 in
theorem ggX11_level_X6_has : GoodIn wsX11_level wsX6_has := goodIn_r _ [10, 11, 71, 72, 73, 74, 75, 76, 77, 78] (by decide +kernel) (by decide +kernel)
set_option maxRecDepth 20000 in
theorem gX11_level_X6_has : GoodIn wsX11_level (wsV RX11 152 RX6 yX6_has wsX6_has) := goodIn_app (goodIn_of _ (by decide +kernel)) ggX11_level_X6_has
set_option maxRecDepth 20000 in
theorem ggX11_level_X11_tryDays : GoodIn wsX11_level wsX11_tryDays := goodIn_r _ [16, 4, 17, 18, 1, 19, 20, 21, 22, 23, 24, 25, 26, 27, 28, 29, 30, 31, 32, 33, 34, 35, 36, 37, 38, 39, 40, 41, 42, 43, 44, 45, 46, 47, 48, 49, 50, 51, 52, 53, 54, 55, 56, 57, 58, 59, 60, 61, 62, 63, 64, 65, 66, 67, 68, 69, 70, 71, 72, 73, 74, 75, 76, 77, 78] (by decide +kernel) (by decide +kernel)
set_option maxRecDepth 20000 in
theorem gX11_level_X11_tryDays : GoodIn wsX11_level (wsV RX11 202 RX11 yX11_tryDays wsX11_tryDays) := goodIn_app (goodIn_of _ (by decide +kernel)) ggX11_level_X11_tryDays
theorem dX11_level_0 : decode cX11_level 0 = .ok (.aload_n 0, 1) := by decide +kernel
theorem dX11_level_1 : decode cX11_level 1 = .ok (.getfield 19, 3) := by decide +kernel
theorem dX11_level_4 : decode cX11_level 4 = .ok (.iload_n 1, 1) := by decide +kernel
theorem dX11_level_5 : decode cX11_level 5 = .ok (.invokevirtual 152, 3) := by decide +kernel
theorem dX11_level_8 : decode cX11_level 8 = .ok (.ifCond .ne 6, 3) := by decide +kernel
theorem dX11_level_11 : decode cX11_level 11 = .ok (.ldc 155, 2) := by decide +kernel
theorem dX11_level_13 : decode cX11_level 13 = .ok (.ireturn, 1) := by decide +kernel
theorem dX11_level_14 : decode cX11_level 14 = .ok (.iload_n 2, 1) := by decide +kernel
theorem dX11_level_15 : decode cX11_level 15 = .ok (.ifCond .lt 9, 3) := by decide +kernel
theorem dX11_level_18 : decode cX11_level 18 = .ok (.iload_n 2, 1) := by decide +kernel
theorem dX11_level_19 : decode cX11_level 19 = .ok (.bipush 60, 2) := by decide +kernel
theorem dX11_level_21 : decode cX11_level 21 = .ok (.if_icmp .le 6, 3) := by decide +kernel
theorem dX11_level_24 : decode cX11_level 24 = .ok (.ldc 85, 2) := by decide +kernel
theorem dX11_level_26 : decode cX11_level 26 = .ok (.ireturn, 1) := by decide +kernel
theorem dX11_level_27 : decode cX11_level 27 = .ok (.aload_n 0, 1) := by decide +kernel
theorem dX11_level_28 : decode cX11_level 28 = .ok (.iload_n 2, 1) := by decide +kernel
theorem dX11_level_29 : decode cX11_level 29 = .ok (.invokevirtual 202, 3) := by decide +kernel
theorem dX11_level_32 : decode cX11_level 32 = .ok (.aload_n 0, 1) := by decide +kernel
theorem dX11_level_33 : decode cX11_level 33 = .ok (.getfield 33, 3) := by decide +kernel
theorem dX11_level_36 : decode cX11_level 36 = .ok (.getfield 166, 3) := by decide +kernel
theorem dX11_level_39 : decode cX11_level 39 = .ok (.iload_n 1, 1) := by decide +kernel
theorem dX11_level_40 : decode cX11_level 40 = .ok (.iaload, 1) := by decide +kernel
theorem dX11_level_41 : decode cX11_level 41 = .ok (.ireturn, 1) := by decide +kernel
set_option maxRecDepth 20000 in
theorem ggX11_spills_X11_tryDays : GoodIn wsX11_spills wsX11_tryDays := goodIn_r _ [8, 2, 9, 3, 10, 11, 12, 13, 14, 15, 16, 17, 18, 19, 20, 21, 22, 23, 24, 25, 26, 27, 28, 29, 30, 31, 32, 33, 34, 35, 36, 37, 38, 39, 40, 41, 42, 43, 44, 45, 46, 47, 48, 49, 50, 51, 52, 53, 54, 55, 56, 57, 58, 59, 60, 61, 62, 63, 64, 65, 66, 67, 68, 69, 70] (by decide +kernel) (by decide +kernel)
set_option maxRecDepth 20000 in
theorem gX11_spills_X11_tryDays : GoodIn wsX11_spills (wsV RX11 202 RX11 yX11_tryDays wsX11_tryDays) := goodIn_app (goodIn_of _ (by decide +kernel)) ggX11_spills_X11_tryDays
theorem dX11_spills_0 : decode cX11_spills 0 = .ok (.iload_n 1, 1) := by decide +kernel
theorem dX11_spills_1 : decode cX11_spills 1 = .ok (.ifCond .lt 9, 3) := by decide +kernel
theorem dX11_spills_4 : decode cX11_spills 4 = .ok (.iload_n 1, 1) := by decide +kernel
theorem dX11_spills_5 : decode cX11_spills 5 = .ok (.bipush 60, 2) := by decide +kernel
theorem dX11_spills_7 : decode cX11_spills 7 = .ok (.if_icmp .le 6, 3) := by decide +kernel
theorem dX11_spills_10 : decode cX11_spills 10 = .ok (.ldc 85, 2) := by decide +kernel
theorem dX11_spills_12 : decode cX11_spills 12 = .ok (.ireturn, 1) := by decide +kernel
theorem dX11_spills_13 : decode cX11_spills 13 = .ok (.aload_n 0, 1) := by decide +kernel
theorem dX11_spills_14 : decode cX11_spills 14 = .ok (.iload_n 1, 1) := by decide +kernel
theorem dX11_spills_15 : decode cX11_spills 15 = .ok (.invokevirtual 202, 3) := by decide +kernel
theorem dX11_spills_18 : decode cX11_spills 18 = .ok (.aload_n 0, 1) := by decide +kernel
theorem dX11_spills_19 : decode cX11_spills 19 = .ok (.getfield 33, 3) := by decide +kernel
theorem dX11_spills_22 : decode cX11_spills 22 = .ok (.getfield 134, 3) := by decide +kernel
theorem dX11_spills_25 : decode cX11_spills 25 = .ok (.ireturn, 1) := by decide +kernel
set_option maxRecDepth 20000 in
theorem ggX11_fewest_X11_lentLeft : GoodIn wsX11_fewest wsX11_lentLeft := goodIn_r _ [7, 1, 8, 9, 10, 11, 12, 13, 14, 35, 36, 37, 38, 39, 40, 41, 42, 43, 44, 45, 46, 47, 48, 49, 50, 51, 52, 53, 54, 55, 56, 57, 58, 59] (by decide +kernel) (by decide +kernel)
set_option maxRecDepth 20000 in
theorem gX11_fewest_X11_lentLeft : GoodIn wsX11_fewest (wsV RX11 206 RX11 yX11_lentLeft wsX11_lentLeft) := goodIn_app (goodIn_of _ (by decide +kernel)) ggX11_fewest_X11_lentLeft
set_option maxRecDepth 20000 in
theorem ggX11_fewest_J6_bitCount_0f7a4 : GoodIn wsX11_fewest wsJ6_bitCount_0f7a4 := goodIn_r _ [18, 19, 20, 21] (by decide +kernel) (by decide +kernel)
set_option maxRecDepth 20000 in
theorem gX11_fewest_J6_bitCount_0f7a4 : GoodIn wsX11_fewest (va_wsS RX11 210 yJ6_bitCount_0f7a4 wsJ6_bitCount_0f7a4) := goodIn_app (goodIn_of _ (by decide +kernel)) ggX11_fewest_J6_bitCount_0f7a4
set_option maxRecDepth 20000 in
theorem ggX11_fewest_X11_allStreamsBear : GoodIn wsX11_fewest wsX11_allStreamsBear := goodIn_r _ [25, 1, 2, 26, 27, 28, 29, 30, 6, 31, 32, 9, 33, 34, 35, 36, 37, 38, 39, 40, 41, 42, 43, 44, 45, 46, 47, 48, 49, 50, 51, 52, 53, 54, 55, 56, 57, 58, 59] (by decide +kernel) (by decide +kernel)
set_option maxRecDepth 20000 in
theorem gX11_fewest_X11_allStreamsBear : GoodIn wsX11_fewest (wsV RX11 215 RX11 yX11_allStreamsBear wsX11_allStreamsBear) := goodIn_app (goodIn_of _ (by decide +kernel)) ggX11_fewest_X11_allStreamsBear
theorem dX11_fewest_0 : decode cX11_fewest 0 = .ok (.aload_n 0, 1) := by decide +kernel
theorem dX11_fewest_1 : decode cX11_fewest 1 = .ok (.invokevirtual 206, 3) := by decide +kernel
theorem dX11_fewest_4 : decode cX11_fewest 4 = .ok (.istore_n 1, 1) := by decide +kernel
theorem dX11_fewest_5 : decode cX11_fewest 5 = .ok (.iconst 1, 1) := by decide +kernel
theorem dX11_fewest_6 : decode cX11_fewest 6 = .ok (.aload_n 0, 1) := by decide +kernel
theorem dX11_fewest_7 : decode cX11_fewest 7 = .ok (.getfield 19, 3) := by decide +kernel
theorem dX11_fewest_10 : decode cX11_fewest 10 = .ok (.getfield 111, 3) := by decide +kernel
theorem dX11_fewest_13 : decode cX11_fewest 13 = .ok (.ishl, 1) := by decide +kernel
theorem dX11_fewest_14 : decode cX11_fewest 14 = .ok (.iconst 1, 1) := by decide +kernel
theorem dX11_fewest_15 : decode cX11_fewest 15 = .ok (.isub, 1) := by decide +kernel
theorem dX11_fewest_16 : decode cX11_fewest 16 = .ok (.istore_n 2, 1) := by decide +kernel
theorem dX11_fewest_17 : decode cX11_fewest 17 = .ok (.iload_n 2, 1) := by decide +kernel
theorem dX11_fewest_18 : decode cX11_fewest 18 = .ok (.istore_n 3, 1) := by decide +kernel
theorem dX11_fewest_19 : decode cX11_fewest 19 = .ok (.iconst 0, 1) := by decide +kernel
theorem dX11_fewest_20 : decode cX11_fewest 20 = .ok (.istore 4, 2) := by decide +kernel
theorem dX11_fewest_22 : decode cX11_fewest 22 = .ok (.iload 4, 2) := by decide +kernel
theorem dX11_fewest_24 : decode cX11_fewest 24 = .ok (.iload_n 2, 1) := by decide +kernel
theorem dX11_fewest_25 : decode cX11_fewest 25 = .ok (.if_icmp .ge 34, 3) := by decide +kernel
theorem dX11_fewest_28 : decode cX11_fewest 28 = .ok (.iload 4, 2) := by decide +kernel
theorem dX11_fewest_30 : decode cX11_fewest 30 = .ok (.invokestatic 210, 3) := by decide +kernel
theorem dX11_fewest_33 : decode cX11_fewest 33 = .ok (.iload_n 3, 1) := by decide +kernel
theorem dX11_fewest_34 : decode cX11_fewest 34 = .ok (.invokestatic 210, 3) := by decide +kernel
theorem dX11_fewest_37 : decode cX11_fewest 37 = .ok (.if_icmp .ge 16, 3) := by decide +kernel
theorem dX11_fewest_40 : decode cX11_fewest 40 = .ok (.aload_n 0, 1) := by decide +kernel
theorem dX11_fewest_41 : decode cX11_fewest 41 = .ok (.iload 4, 2) := by decide +kernel
theorem dX11_fewest_43 : decode cX11_fewest 43 = .ok (.iload_n 1, 1) := by decide +kernel
theorem dX11_fewest_44 : decode cX11_fewest 44 = .ok (.invokevirtual 215, 3) := by decide +kernel
theorem dX11_fewest_47 : decode cX11_fewest 47 = .ok (.ifCond .eq 6, 3) := by decide +kernel
theorem dX11_fewest_50 : decode cX11_fewest 50 = .ok (.iload 4, 2) := by decide +kernel
theorem dX11_fewest_52 : decode cX11_fewest 52 = .ok (.istore_n 3, 1) := by decide +kernel
theorem dX11_fewest_53 : decode cX11_fewest 53 = .ok (.iinc 4 1, 3) := by decide +kernel
theorem dX11_fewest_56 : decode cX11_fewest 56 = .ok (.goto (-34), 3) := by decide +kernel
theorem dX11_fewest_59 : decode cX11_fewest 59 = .ok (.iload_n 3, 1) := by decide +kernel
theorem dX11_fewest_60 : decode cX11_fewest 60 = .ok (.ireturn, 1) := by decide +kernel
set_option maxRecDepth 20000 in
theorem ggX11_held_X11_lentLeft : GoodIn wsX11_held wsX11_lentLeft := goodIn_r _ [8, 2, 9, 3, 10, 11, 12, 13, 14, 39, 40, 41, 42, 43, 44, 45, 46, 47, 48, 49, 50, 51, 52, 53, 54, 55, 56, 57, 58, 59, 60, 61, 62, 63] (by decide +kernel) (by decide +kernel)
set_option maxRecDepth 20000 in
theorem gX11_held_X11_lentLeft : GoodIn wsX11_held (wsV RX11 206 RX11 yX11_lentLeft wsX11_lentLeft) := goodIn_app (goodIn_of _ (by decide +kernel)) ggX11_held_X11_lentLeft
set_option maxRecDepth 20000 in
theorem ggX11_held_X4_hold : GoodIn wsX11_held wsX4_hold := goodIn_r _ [19, 20, 21, 22, 23, 24, 25, 26, 27, 28, 29, 30, 31, 32, 33, 34, 18, 35, 36, 37, 13, 38, 51, 52, 53, 54, 55, 56, 57, 58, 64, 59, 60, 61, 62, 63] (by decide +kernel) (by decide +kernel)
set_option maxRecDepth 20000 in
theorem gX11_held_X4_hold : GoodIn wsX11_held (wsV RX11 219 RX4 yX4_hold wsX4_hold) := goodIn_app (goodIn_of _ (by decide +kernel)) ggX11_held_X4_hold
theorem dX11_held_0 : decode cX11_held 0 = .ok (.aload_n 0, 1) := by decide +kernel
theorem dX11_held_1 : decode cX11_held 1 = .ok (.getfield 81, 3) := by decide +kernel
theorem dX11_held_4 : decode cX11_held 4 = .ok (.aload_n 0, 1) := by decide +kernel
theorem dX11_held_5 : decode cX11_held 5 = .ok (.getfield 19, 3) := by decide +kernel
theorem dX11_held_8 : decode cX11_held 8 = .ok (.aload_n 0, 1) := by decide +kernel
theorem dX11_held_9 : decode cX11_held 9 = .ok (.getfield 29, 3) := by decide +kernel
theorem dX11_held_12 : decode cX11_held 12 = .ok (.aload_n 0, 1) := by decide +kernel
theorem dX11_held_13 : decode cX11_held 13 = .ok (.invokevirtual 206, 3) := by decide +kernel
theorem dX11_held_16 : decode cX11_held 16 = .ok (.invokevirtual 219, 3) := by decide +kernel
theorem dX11_held_19 : decode cX11_held 19 = .ok (.ireturn, 1) := by decide +kernel
set_option maxRecDepth 20000 in
theorem ggX11_breath_X10_copyFrom : GoodIn wsX11_breath wsX10_copyFrom := goodIn_r _ [15, 16, 17, 18, 19, 20, 21, 22, 23, 24, 94, 95, 96, 97, 98] (by decide +kernel) (by decide +kernel)
set_option maxRecDepth 20000 in
theorem gX11_breath_X10_copyFrom : GoodIn wsX11_breath (wsV RX11 223 RX10 yX10_copyFrom wsX10_copyFrom) := goodIn_app (goodIn_of _ (by decide +kernel)) ggX11_breath_X10_copyFrom
set_option maxRecDepth 20000 in
theorem ggX11_breath_X0_draw : GoodIn wsX11_breath wsX0_draw := goodIn_r _ [29, 30, 31, 32, 33, 34, 35, 36, 28, 37, 38, 39, 40, 41, 42, 14, 43, 44, 16, 45, 46, 47, 48, 49, 50, 51, 52, 53, 54, 55, 56, 57, 58, 59, 60, 61, 62, 63, 64, 65, 24, 66, 67, 68, 69, 70, 23, 94, 95, 96, 97, 98, 91, 92, 93, 83, 84, 85, 86, 87, 88, 89, 90] (by decide +kernel) (by decide +kernel)
set_option maxRecDepth 20000 in
theorem gX11_breath_X0_draw : GoodIn wsX11_breath (wsV RX11 226 RX0 yX0_draw wsX0_draw) := goodIn_app (goodIn_of _ (by decide +kernel)) ggX11_breath_X0_draw
theorem dX11_breath_0 : decode cX11_breath 0 = .ok (.iload_n 1, 1) := by decide +kernel
theorem dX11_breath_1 : decode cX11_breath 1 = .ok (.ifCond .lt 8, 3) := by decide +kernel
theorem dX11_breath_4 : decode cX11_breath 4 = .ok (.iload_n 1, 1) := by decide +kernel
theorem dX11_breath_5 : decode cX11_breath 5 = .ok (.iconst 3, 1) := by decide +kernel
theorem dX11_breath_6 : decode cX11_breath 6 = .ok (.if_icmp .le 6, 3) := by decide +kernel
theorem dX11_breath_9 : decode cX11_breath 9 = .ok (.ldc 85, 2) := by decide +kernel
theorem dX11_breath_11 : decode cX11_breath 11 = .ok (.ireturn, 1) := by decide +kernel
theorem dX11_breath_12 : decode cX11_breath 12 = .ok (.aload_n 0, 1) := by decide +kernel
theorem dX11_breath_13 : decode cX11_breath 13 = .ok (.getfield 19, 3) := by decide +kernel
theorem dX11_breath_16 : decode cX11_breath 16 = .ok (.getfield 111, 3) := by decide +kernel
theorem dX11_breath_19 : decode cX11_breath 19 = .ok (.ifCond .ne 5, 3) := by decide +kernel
theorem dX11_breath_22 : decode cX11_breath 22 = .ok (.iconst (-1), 1) := by decide +kernel
theorem dX11_breath_23 : decode cX11_breath 23 = .ok (.ireturn, 1) := by decide +kernel
theorem dX11_breath_24 : decode cX11_breath 24 = .ok (.aload_n 0, 1) := by decide +kernel
theorem dX11_breath_25 : decode cX11_breath 25 = .ok (.getfield 33, 3) := by decide +kernel
theorem dX11_breath_28 : decode cX11_breath 28 = .ok (.aload_n 0, 1) := by decide +kernel
theorem dX11_breath_29 : decode cX11_breath 29 = .ok (.getfield 29, 3) := by decide +kernel
theorem dX11_breath_32 : decode cX11_breath 32 = .ok (.invokevirtual 223, 3) := by decide +kernel
theorem dX11_breath_35 : decode cX11_breath 35 = .ok (.aload_n 0, 1) := by decide +kernel
theorem dX11_breath_36 : decode cX11_breath 36 = .ok (.getfield 67, 3) := by decide +kernel
theorem dX11_breath_39 : decode cX11_breath 39 = .ok (.aload_n 0, 1) := by decide +kernel
theorem dX11_breath_40 : decode cX11_breath 40 = .ok (.getfield 19, 3) := by decide +kernel
theorem dX11_breath_43 : decode cX11_breath 43 = .ok (.aload_n 0, 1) := by decide +kernel
theorem dX11_breath_44 : decode cX11_breath 44 = .ok (.getfield 33, 3) := by decide +kernel
theorem dX11_breath_47 : decode cX11_breath 47 = .ok (.invokevirtual 226, 3) := by decide +kernel
theorem dX11_breath_50 : decode cX11_breath 50 = .ok (.iload_n 1, 1) := by decide +kernel
theorem dX11_breath_51 : decode cX11_breath 51 = .ok (.tableswitch 49 0 2 #[25, 33, 41], 25) := by decide +kernel
theorem dX11_breath_76 : decode cX11_breath 76 = .ok (.aload_n 0, 1) := by decide +kernel
theorem dX11_breath_77 : decode cX11_breath 77 = .ok (.getfield 67, 3) := by decide +kernel
theorem dX11_breath_80 : decode cX11_breath 80 = .ok (.getfield 230, 3) := by decide +kernel
theorem dX11_breath_83 : decode cX11_breath 83 = .ok (.ireturn, 1) := by decide +kernel
theorem dX11_breath_84 : decode cX11_breath 84 = .ok (.aload_n 0, 1) := by decide +kernel
theorem dX11_breath_85 : decode cX11_breath 85 = .ok (.getfield 33, 3) := by decide +kernel
theorem dX11_breath_88 : decode cX11_breath 88 = .ok (.getfield 134, 3) := by decide +kernel
theorem dX11_breath_91 : decode cX11_breath 91 = .ok (.ireturn, 1) := by decide +kernel
theorem dX11_breath_92 : decode cX11_breath 92 = .ok (.aload_n 0, 1) := by decide +kernel
theorem dX11_breath_93 : decode cX11_breath 93 = .ok (.getfield 67, 3) := by decide +kernel
theorem dX11_breath_96 : decode cX11_breath 96 = .ok (.getfield 233, 3) := by decide +kernel
theorem dX11_breath_99 : decode cX11_breath 99 = .ok (.ireturn, 1) := by decide +kernel
theorem dX11_breath_100 : decode cX11_breath 100 = .ok (.aload_n 0, 1) := by decide +kernel
theorem dX11_breath_101 : decode cX11_breath 101 = .ok (.getfield 67, 3) := by decide +kernel
theorem dX11_breath_104 : decode cX11_breath 104 = .ok (.getfield 236, 3) := by decide +kernel
theorem dX11_breath_107 : decode cX11_breath 107 = .ok (.ireturn, 1) := by decide +kernel
set_option maxRecDepth 20000 in
theorem ggX11_pulled_X7_readOrder : GoodIn wsX11_pulled wsX7_readOrder := goodIn_r _ [10, 11, 12, 56, 57, 58, 59] (by decide +kernel) (by decide +kernel)
set_option maxRecDepth 20000 in
theorem gX11_pulled_X7_readOrder : GoodIn wsX11_pulled (wsV RX11 239 RX7 yX7_readOrder wsX7_readOrder) := goodIn_app (goodIn_of _ (by decide +kernel)) ggX11_pulled_X7_readOrder
set_option maxRecDepth 20000 in
theorem ggX11_pulled_X7_greatest : GoodIn wsX11_pulled wsX7_greatest := goodIn_r _ [16, 17, 18, 19, 20, 21, 22, 23, 24, 11, 12, 25, 26, 27, 9, 28, 29, 30, 31, 32, 33, 34, 35, 48, 49, 50, 51, 52, 53, 54, 55, 56, 57, 58, 59, 60, 61, 62, 63, 64] (by decide +kernel) (by decide +kernel)
set_option maxRecDepth 20000 in
theorem gX11_pulled_X7_greatest : GoodIn wsX11_pulled (wsV RX11 242 RX7 yX7_greatest wsX7_greatest) := goodIn_app (goodIn_of _ (by decide +kernel)) ggX11_pulled_X7_greatest
theorem dX11_pulled_0 : decode cX11_pulled 0 = .ok (.aload_n 0, 1) := by decide +kernel
theorem dX11_pulled_1 : decode cX11_pulled 1 = .ok (.getfield 74, 3) := by decide +kernel
theorem dX11_pulled_4 : decode cX11_pulled 4 = .ok (.iload_n 1, 1) := by decide +kernel
theorem dX11_pulled_5 : decode cX11_pulled 5 = .ok (.aload_n 0, 1) := by decide +kernel
theorem dX11_pulled_6 : decode cX11_pulled 6 = .ok (.getfield 19, 3) := by decide +kernel
theorem dX11_pulled_9 : decode cX11_pulled 9 = .ok (.getfield 111, 3) := by decide +kernel
theorem dX11_pulled_12 : decode cX11_pulled 12 = .ok (.invokevirtual 239, 3) := by decide +kernel
theorem dX11_pulled_15 : decode cX11_pulled 15 = .ok (.ifCond .eq 21, 3) := by decide +kernel
theorem dX11_pulled_18 : decode cX11_pulled 18 = .ok (.aload_n 0, 1) := by decide +kernel
theorem dX11_pulled_19 : decode cX11_pulled 19 = .ok (.getfield 74, 3) := by decide +kernel
theorem dX11_pulled_22 : decode cX11_pulled 22 = .ok (.aload_n 0, 1) := by decide +kernel
theorem dX11_pulled_23 : decode cX11_pulled 23 = .ok (.getfield 19, 3) := by decide +kernel
theorem dX11_pulled_26 : decode cX11_pulled 26 = .ok (.aload_n 0, 1) := by decide +kernel
theorem dX11_pulled_27 : decode cX11_pulled 27 = .ok (.getfield 29, 3) := by decide +kernel
theorem dX11_pulled_30 : decode cX11_pulled 30 = .ok (.invokevirtual 242, 3) := by decide +kernel
theorem dX11_pulled_33 : decode cX11_pulled 33 = .ok (.goto 5, 3) := by decide +kernel
theorem dX11_pulled_36 : decode cX11_pulled 36 = .ok (.ldc 85, 2) := by decide +kernel
theorem dX11_pulled_38 : decode cX11_pulled 38 = .ok (.ireturn, 1) := by decide +kernel
set_option maxRecDepth 20000 in
theorem ggX11_best_X7_firstOrder : GoodIn wsX11_best wsX7_firstOrder := goodIn_r _ [10] (by decide +kernel) (by decide +kernel)
set_option maxRecDepth 20000 in
theorem gX11_best_X7_firstOrder : GoodIn wsX11_best (wsV RX11 245 RX7 yX7_firstOrder wsX7_firstOrder) := goodIn_app (goodIn_of _ (by decide +kernel)) ggX11_best_X7_firstOrder
set_option maxRecDepth 20000 in
theorem ggX11_best_X7_readOrder : GoodIn wsX11_best wsX7_readOrder := goodIn_r _ [14, 15, 16, 60, 61, 62, 63] (by decide +kernel) (by decide +kernel)
set_option maxRecDepth 20000 in
theorem gX11_best_X7_readOrder : GoodIn wsX11_best (wsV RX11 239 RX7 yX7_readOrder wsX7_readOrder) := goodIn_app (goodIn_of _ (by decide +kernel)) ggX11_best_X7_readOrder
set_option maxRecDepth 20000 in
theorem ggX11_best_X7_greatest : GoodIn wsX11_best wsX7_greatest := goodIn_r _ [20, 21, 22, 23, 24, 25, 26, 27, 28, 15, 16, 29, 30, 31, 9, 32, 33, 34, 35, 36, 37, 38, 39, 52, 53, 54, 55, 56, 57, 58, 59, 60, 61, 62, 63, 64, 65, 66, 67, 68] (by decide +kernel) (by decide +kernel)
set_option maxRecDepth 20000 in
theorem gX11_best_X7_greatest : GoodIn wsX11_best (wsV RX11 242 RX7 yX7_greatest wsX7_greatest) := goodIn_app (goodIn_of _ (by decide +kernel)) ggX11_best_X7_greatest
theorem dX11_best_0 : decode cX11_best 0 = .ok (.iload_n 1, 1) := by decide +kernel
theorem dX11_best_1 : decode cX11_best 1 = .ok (.ifCond .lt 8, 3) := by decide +kernel
theorem dX11_best_4 : decode cX11_best 4 = .ok (.iload_n 1, 1) := by decide +kernel
theorem dX11_best_5 : decode cX11_best 5 = .ok (.iconst 1, 1) := by decide +kernel
theorem dX11_best_6 : decode cX11_best 6 = .ok (.if_icmp .le 6, 3) := by decide +kernel
theorem dX11_best_9 : decode cX11_best 9 = .ok (.ldc 85, 2) := by decide +kernel
theorem dX11_best_11 : decode cX11_best 11 = .ok (.ireturn, 1) := by decide +kernel
theorem dX11_best_12 : decode cX11_best 12 = .ok (.aload_n 0, 1) := by decide +kernel
theorem dX11_best_13 : decode cX11_best 13 = .ok (.getfield 74, 3) := by decide +kernel
theorem dX11_best_16 : decode cX11_best 16 = .ok (.aload_n 0, 1) := by decide +kernel
theorem dX11_best_17 : decode cX11_best 17 = .ok (.getfield 19, 3) := by decide +kernel
theorem dX11_best_20 : decode cX11_best 20 = .ok (.getfield 111, 3) := by decide +kernel
theorem dX11_best_23 : decode cX11_best 23 = .ok (.invokevirtual 245, 3) := by decide +kernel
theorem dX11_best_26 : decode cX11_best 26 = .ok (.istore_n 2, 1) := by decide +kernel
theorem dX11_best_27 : decode cX11_best 27 = .ok (.aload_n 0, 1) := by decide +kernel
theorem dX11_best_28 : decode cX11_best 28 = .ok (.getfield 74, 3) := by decide +kernel
theorem dX11_best_31 : decode cX11_best 31 = .ok (.iload_n 2, 1) := by decide +kernel
theorem dX11_best_32 : decode cX11_best 32 = .ok (.aload_n 0, 1) := by decide +kernel
theorem dX11_best_33 : decode cX11_best 33 = .ok (.getfield 19, 3) := by decide +kernel
theorem dX11_best_36 : decode cX11_best 36 = .ok (.getfield 111, 3) := by decide +kernel
theorem dX11_best_39 : decode cX11_best 39 = .ok (.invokevirtual 239, 3) := by decide +kernel
theorem dX11_best_42 : decode cX11_best 42 = .ok (.ifCond .ne 5, 3) := by decide +kernel
theorem dX11_best_45 : decode cX11_best 45 = .ok (.iconst (-1), 1) := by decide +kernel
theorem dX11_best_46 : decode cX11_best 46 = .ok (.ireturn, 1) := by decide +kernel
theorem dX11_best_47 : decode cX11_best 47 = .ok (.iload_n 1, 1) := by decide +kernel
theorem dX11_best_48 : decode cX11_best 48 = .ok (.ifCond .ne 7, 3) := by decide +kernel
theorem dX11_best_51 : decode cX11_best 51 = .ok (.iload_n 2, 1) := by decide +kernel
theorem dX11_best_52 : decode cX11_best 52 = .ok (.goto 18, 3) := by decide +kernel
theorem dX11_best_55 : decode cX11_best 55 = .ok (.aload_n 0, 1) := by decide +kernel
theorem dX11_best_56 : decode cX11_best 56 = .ok (.getfield 74, 3) := by decide +kernel
theorem dX11_best_59 : decode cX11_best 59 = .ok (.aload_n 0, 1) := by decide +kernel
theorem dX11_best_60 : decode cX11_best 60 = .ok (.getfield 19, 3) := by decide +kernel
theorem dX11_best_63 : decode cX11_best 63 = .ok (.aload_n 0, 1) := by decide +kernel
theorem dX11_best_64 : decode cX11_best 64 = .ok (.getfield 29, 3) := by decide +kernel
theorem dX11_best_67 : decode cX11_best 67 = .ok (.invokevirtual 242, 3) := by decide +kernel
theorem dX11_best_70 : decode cX11_best 70 = .ok (.ireturn, 1) := by decide +kernel
theorem dX11_dry_0 : decode cX11_dry 0 = .ok (.iload_n 1, 1) := by decide +kernel
theorem dX11_dry_1 : decode cX11_dry 1 = .ok (.ifCond .lt 19, 3) := by decide +kernel
theorem dX11_dry_4 : decode cX11_dry 4 = .ok (.iload_n 1, 1) := by decide +kernel
theorem dX11_dry_5 : decode cX11_dry 5 = .ok (.bipush 60, 2) := by decide +kernel
theorem dX11_dry_7 : decode cX11_dry 7 = .ok (.if_icmp .gt 13, 3) := by decide +kernel
theorem dX11_dry_10 : decode cX11_dry 10 = .ok (.iload_n 2, 1) := by decide +kernel
theorem dX11_dry_11 : decode cX11_dry 11 = .ok (.ifCond .lt 9, 3) := by decide +kernel
theorem dX11_dry_14 : decode cX11_dry 14 = .ok (.iload_n 2, 1) := by decide +kernel
theorem dX11_dry_15 : decode cX11_dry 15 = .ok (.bipush 100, 2) := by decide +kernel
theorem dX11_dry_17 : decode cX11_dry 17 = .ok (.if_icmp .le 6, 3) := by decide +kernel
theorem dX11_dry_20 : decode cX11_dry 20 = .ok (.ldc 85, 2) := by decide +kernel
theorem dX11_dry_22 : decode cX11_dry 22 = .ok (.ireturn, 1) := by decide +kernel
theorem dX11_dry_23 : decode cX11_dry 23 = .ok (.ldc2_w 248, 3) := by decide +kernel
theorem dX11_dry_26 : decode cX11_dry 26 = .ok (.lstore_n 3, 1) := by decide +kernel
theorem dX11_dry_27 : decode cX11_dry 27 = .ok (.iconst 0, 1) := by decide +kernel
theorem dX11_dry_28 : decode cX11_dry 28 = .ok (.istore 5, 2) := by decide +kernel
theorem dX11_dry_30 : decode cX11_dry 30 = .ok (.iload 5, 2) := by decide +kernel
theorem dX11_dry_32 : decode cX11_dry 32 = .ok (.iload_n 1, 1) := by decide +kernel
theorem dX11_dry_33 : decode cX11_dry 33 = .ok (.if_icmp .ge 18, 3) := by decide +kernel
theorem dX11_dry_36 : decode cX11_dry 36 = .ok (.lload_n 3, 1) := by decide +kernel
theorem dX11_dry_37 : decode cX11_dry 37 = .ok (.iload_n 2, 1) := by decide +kernel
theorem dX11_dry_38 : decode cX11_dry 38 = .ok (.i2l, 1) := by decide +kernel
theorem dX11_dry_39 : decode cX11_dry 39 = .ok (.lmul, 1) := by decide +kernel
theorem dX11_dry_40 : decode cX11_dry 40 = .ok (.ldc2_w 250, 3) := by decide +kernel
theorem dX11_dry_43 : decode cX11_dry 43 = .ok (.ldiv, 1) := by decide +kernel
theorem dX11_dry_44 : decode cX11_dry 44 = .ok (.lstore_n 3, 1) := by decide +kernel
theorem dX11_dry_45 : decode cX11_dry 45 = .ok (.iinc 5 1, 3) := by decide +kernel
theorem dX11_dry_48 : decode cX11_dry 48 = .ok (.goto (-18), 3) := by decide +kernel
theorem dX11_dry_51 : decode cX11_dry 51 = .ok (.lload_n 3, 1) := by decide +kernel
theorem dX11_dry_52 : decode cX11_dry 52 = .ok (.l2i, 1) := by decide +kernel
theorem dX11_dry_53 : decode cX11_dry 53 = .ok (.ireturn, 1) := by decide +kernel
set_option maxRecDepth 20000 in
theorem ggX11_see_X6_has : GoodIn wsX11_see wsX6_has := goodIn_r _ [10, 11, 38, 39, 40, 41, 42, 43, 44, 45] (by decide +kernel) (by decide +kernel)
set_option maxRecDepth 20000 in
theorem gX11_see_X6_has : GoodIn wsX11_see (wsV RX11 152 RX6 yX6_has wsX6_has) := goodIn_app (goodIn_of _ (by decide +kernel)) ggX11_see_X6_has
set_option maxRecDepth 20000 in
theorem ggX11_see_X5_addSeen : GoodIn wsX11_see wsX5_addSeen := goodIn_r _ [16, 17, 18, 19, 32, 33, 34, 35, 36, 37] (by decide +kernel) (by decide +kernel)
set_option maxRecDepth 20000 in
theorem gX11_see_X5_addSeen : GoodIn wsX11_see (wsV RX11 252 RX5 yX5_addSeen wsX5_addSeen) := goodIn_app (goodIn_of _ (by decide +kernel)) ggX11_see_X5_addSeen
theorem dX11_see_0 : decode cX11_see 0 = .ok (.aload_n 0, 1) := by decide +kernel
theorem dX11_see_1 : decode cX11_see 1 = .ok (.getfield 19, 3) := by decide +kernel
theorem dX11_see_4 : decode cX11_see 4 = .ok (.iload_n 1, 1) := by decide +kernel
theorem dX11_see_5 : decode cX11_see 5 = .ok (.invokevirtual 152, 3) := by decide +kernel
theorem dX11_see_8 : decode cX11_see 8 = .ok (.ifCond .ne 6, 3) := by decide +kernel
theorem dX11_see_11 : decode cX11_see 11 = .ok (.ldc 155, 2) := by decide +kernel
theorem dX11_see_13 : decode cX11_see 13 = .ok (.ireturn, 1) := by decide +kernel
theorem dX11_see_14 : decode cX11_see 14 = .ok (.aload_n 0, 1) := by decide +kernel
theorem dX11_see_15 : decode cX11_see 15 = .ok (.getfield 60, 3) := by decide +kernel
theorem dX11_see_18 : decode cX11_see 18 = .ok (.iload_n 1, 1) := by decide +kernel
theorem dX11_see_19 : decode cX11_see 19 = .ok (.iload_n 2, 1) := by decide +kernel
theorem dX11_see_20 : decode cX11_see 20 = .ok (.invokevirtual 252, 3) := by decide +kernel
theorem dX11_see_23 : decode cX11_see 23 = .ok (.ifCond .eq 13, 3) := by decide +kernel
theorem dX11_see_26 : decode cX11_see 26 = .ok (.aload_n 0, 1) := by decide +kernel
theorem dX11_see_27 : decode cX11_see 27 = .ok (.getfield 60, 3) := by decide +kernel
theorem dX11_see_30 : decode cX11_see 30 = .ok (.getfield 143, 3) := by decide +kernel
theorem dX11_see_33 : decode cX11_see 33 = .ok (.goto 5, 3) := by decide +kernel
theorem dX11_see_36 : decode cX11_see 36 = .ok (.ldc 94, 2) := by decide +kernel
theorem dX11_see_38 : decode cX11_see 38 = .ok (.ireturn, 1) := by decide +kernel
set_option maxRecDepth 20000 in
theorem ggX11_whence_X5_fitting : GoodIn wsX11_whence wsX5_fitting := goodIn_r _ [7, 8, 9, 10, 11, 12, 13, 14, 15, 16, 17, 18, 31, 32, 33, 34, 35, 36, 37, 38, 39, 40, 41, 42, 43, 44] (by decide +kernel) (by decide +kernel)
set_option maxRecDepth 20000 in
theorem gX11_whence_X5_fitting : GoodIn wsX11_whence (wsV RX11 256 RX5 yX5_fitting wsX5_fitting) := goodIn_app (goodIn_of _ (by decide +kernel)) ggX11_whence_X5_fitting
theorem dX11_whence_0 : decode cX11_whence 0 = .ok (.aload_n 0, 1) := by decide +kernel
theorem dX11_whence_1 : decode cX11_whence 1 = .ok (.getfield 60, 3) := by decide +kernel
theorem dX11_whence_4 : decode cX11_whence 4 = .ok (.aload_n 0, 1) := by decide +kernel
theorem dX11_whence_5 : decode cX11_whence 5 = .ok (.getfield 19, 3) := by decide +kernel
theorem dX11_whence_8 : decode cX11_whence 8 = .ok (.invokevirtual 256, 3) := by decide +kernel
theorem dX11_whence_11 : decode cX11_whence 11 = .ok (.ireturn, 1) := by decide +kernel
set_option maxRecDepth 20000 in
theorem ggX11_lookAt_X5_fitting : GoodIn wsX11_lookAt wsX5_fitting := goodIn_r _ [13, 14, 15, 16, 17, 18, 19, 20, 21, 22, 23, 24, 44, 45, 46, 47, 48, 49, 50, 51, 52, 53, 54, 55, 56, 57] (by decide +kernel) (by decide +kernel)
set_option maxRecDepth 20000 in
theorem gX11_lookAt_X5_fitting : GoodIn wsX11_lookAt (wsV RX11 256 RX5 yX5_fitting wsX5_fitting) := goodIn_app (goodIn_of _ (by decide +kernel)) ggX11_lookAt_X5_fitting
set_option maxRecDepth 20000 in
theorem ggX11_lookAt_J6_bitCount_0f7a4 : GoodIn wsX11_lookAt wsJ6_bitCount_0f7a4 := goodIn_r _ [28, 29, 30, 31] (by decide +kernel) (by decide +kernel)
set_option maxRecDepth 20000 in
theorem gX11_lookAt_J6_bitCount_0f7a4 : GoodIn wsX11_lookAt (va_wsS RX11 210 yJ6_bitCount_0f7a4 wsJ6_bitCount_0f7a4) := goodIn_app (goodIn_of _ (by decide +kernel)) ggX11_lookAt_J6_bitCount_0f7a4
theorem dX11_lookAt_0 : decode cX11_lookAt 0 = .ok (.aload_n 0, 1) := by decide +kernel
theorem dX11_lookAt_1 : decode cX11_lookAt 1 = .ok (.getfield 60, 3) := by decide +kernel
theorem dX11_lookAt_4 : decode cX11_lookAt 4 = .ok (.aload_n 0, 1) := by decide +kernel
theorem dX11_lookAt_5 : decode cX11_lookAt 5 = .ok (.getfield 19, 3) := by decide +kernel
theorem dX11_lookAt_8 : decode cX11_lookAt 8 = .ok (.invokevirtual 256, 3) := by decide +kernel
theorem dX11_lookAt_11 : decode cX11_lookAt 11 = .ok (.istore_n 1, 1) := by decide +kernel
theorem dX11_lookAt_12 : decode cX11_lookAt 12 = .ok (.iload_n 1, 1) := by decide +kernel
theorem dX11_lookAt_13 : decode cX11_lookAt 13 = .ok (.invokestatic 210, 3) := by decide +kernel
theorem dX11_lookAt_16 : decode cX11_lookAt 16 = .ok (.istore_n 2, 1) := by decide +kernel
theorem dX11_lookAt_17 : decode cX11_lookAt 17 = .ok (.iconst (-1), 1) := by decide +kernel
theorem dX11_lookAt_18 : decode cX11_lookAt 18 = .ok (.istore_n 3, 1) := by decide +kernel
theorem dX11_lookAt_19 : decode cX11_lookAt 19 = .ok (.iload_n 2, 1) := by decide +kernel
theorem dX11_lookAt_20 : decode cX11_lookAt 20 = .ok (.istore 4, 2) := by decide +kernel
theorem dX11_lookAt_22 : decode cX11_lookAt 22 = .ok (.iconst 0, 1) := by decide +kernel
theorem dX11_lookAt_23 : decode cX11_lookAt 23 = .ok (.istore 5, 2) := by decide +kernel
theorem dX11_lookAt_25 : decode cX11_lookAt 25 = .ok (.iload 5, 2) := by decide +kernel
theorem dX11_lookAt_27 : decode cX11_lookAt 27 = .ok (.aload_n 0, 1) := by decide +kernel
theorem dX11_lookAt_28 : decode cX11_lookAt 28 = .ok (.getfield 19, 3) := by decide +kernel
theorem dX11_lookAt_31 : decode cX11_lookAt 31 = .ok (.getfield 111, 3) := by decide +kernel
theorem dX11_lookAt_34 : decode cX11_lookAt 34 = .ok (.if_icmp .ge 51, 3) := by decide +kernel
theorem dX11_lookAt_37 : decode cX11_lookAt 37 = .ok (.iload_n 1, 1) := by decide +kernel
theorem dX11_lookAt_38 : decode cX11_lookAt 38 = .ok (.aload_n 0, 1) := by decide +kernel
theorem dX11_lookAt_39 : decode cX11_lookAt 39 = .ok (.getfield 19, 3) := by decide +kernel
theorem dX11_lookAt_42 : decode cX11_lookAt 42 = .ok (.getfield 172, 3) := by decide +kernel
theorem dX11_lookAt_45 : decode cX11_lookAt 45 = .ok (.iload 5, 2) := by decide +kernel
theorem dX11_lookAt_47 : decode cX11_lookAt 47 = .ok (.iaload, 1) := by decide +kernel
theorem dX11_lookAt_48 : decode cX11_lookAt 48 = .ok (.iand, 1) := by decide +kernel
theorem dX11_lookAt_49 : decode cX11_lookAt 49 = .ok (.invokestatic 210, 3) := by decide +kernel
theorem dX11_lookAt_52 : decode cX11_lookAt 52 = .ok (.istore 6, 2) := by decide +kernel
theorem dX11_lookAt_54 : decode cX11_lookAt 54 = .ok (.iload 6, 2) := by decide +kernel
theorem dX11_lookAt_56 : decode cX11_lookAt 56 = .ok (.iload_n 2, 1) := by decide +kernel
theorem dX11_lookAt_57 : decode cX11_lookAt 57 = .ok (.iload 6, 2) := by decide +kernel
theorem dX11_lookAt_59 : decode cX11_lookAt 59 = .ok (.isub, 1) := by decide +kernel
theorem dX11_lookAt_60 : decode cX11_lookAt 60 = .ok (.invokestatic 259, 3) := by decide +kernel
theorem dX11_lookAt_63 : decode cX11_lookAt 63 = .ok (.istore 7, 2) := by decide +kernel
theorem dX11_lookAt_65 : decode cX11_lookAt 65 = .ok (.iload 7, 2) := by decide +kernel
theorem dX11_lookAt_67 : decode cX11_lookAt 67 = .ok (.iload 4, 2) := by decide +kernel
theorem dX11_lookAt_69 : decode cX11_lookAt 69 = .ok (.if_icmp .ge 10, 3) := by decide +kernel
theorem dX11_lookAt_72 : decode cX11_lookAt 72 = .ok (.iload 7, 2) := by decide +kernel
theorem dX11_lookAt_74 : decode cX11_lookAt 74 = .ok (.istore 4, 2) := by decide +kernel
theorem dX11_lookAt_76 : decode cX11_lookAt 76 = .ok (.iload 5, 2) := by decide +kernel
theorem dX11_lookAt_78 : decode cX11_lookAt 78 = .ok (.istore_n 3, 1) := by decide +kernel
theorem dX11_lookAt_79 : decode cX11_lookAt 79 = .ok (.iinc 5 1, 3) := by decide +kernel
theorem dX11_lookAt_82 : decode cX11_lookAt 82 = .ok (.goto (-57), 3) := by decide +kernel
theorem dX11_lookAt_85 : decode cX11_lookAt 85 = .ok (.iload_n 3, 1) := by decide +kernel
theorem dX11_lookAt_86 : decode cX11_lookAt 86 = .ok (.ireturn, 1) := by decide +kernel
set_option maxRecDepth 20000 in
theorem ggX11_write_X6_has : GoodIn wsX11_write wsX6_has := goodIn_r _ [11, 12, 39, 40, 41, 42, 43, 44, 45, 46] (by decide +kernel) (by decide +kernel)
set_option maxRecDepth 20000 in
theorem gX11_write_X6_has : GoodIn wsX11_write (wsV RX11 152 RX6 yX6_has wsX6_has) := goodIn_app (goodIn_of _ (by decide +kernel)) ggX11_write_X6_has
set_option maxRecDepth 20000 in
theorem ggX11_write_X5_addEntry : GoodIn wsX11_write wsX5_addEntry := goodIn_r _ [17, 18, 19, 20, 33, 34, 35, 36, 37, 38] (by decide +kernel) (by decide +kernel)
set_option maxRecDepth 20000 in
theorem gX11_write_X5_addEntry : GoodIn wsX11_write (wsV RX11 265 RX5 yX5_addEntry wsX5_addEntry) := goodIn_app (goodIn_of _ (by decide +kernel)) ggX11_write_X5_addEntry
theorem dX11_write_0 : decode cX11_write 0 = .ok (.aload_n 0, 1) := by decide +kernel
theorem dX11_write_1 : decode cX11_write 1 = .ok (.getfield 19, 3) := by decide +kernel
theorem dX11_write_4 : decode cX11_write 4 = .ok (.iload_n 1, 1) := by decide +kernel
theorem dX11_write_5 : decode cX11_write 5 = .ok (.invokevirtual 152, 3) := by decide +kernel
theorem dX11_write_8 : decode cX11_write 8 = .ok (.ifCond .ne 6, 3) := by decide +kernel
theorem dX11_write_11 : decode cX11_write 11 = .ok (.ldc 155, 2) := by decide +kernel
theorem dX11_write_13 : decode cX11_write 13 = .ok (.ireturn, 1) := by decide +kernel
theorem dX11_write_14 : decode cX11_write 14 = .ok (.iload_n 2, 1) := by decide +kernel
theorem dX11_write_15 : decode cX11_write 15 = .ok (.ifCond .lt 10, 3) := by decide +kernel
theorem dX11_write_18 : decode cX11_write 18 = .ok (.iload_n 2, 1) := by decide +kernel
theorem dX11_write_19 : decode cX11_write 19 = .ok (.sipush 999, 3) := by decide +kernel
theorem dX11_write_22 : decode cX11_write 22 = .ok (.if_icmp .le 6, 3) := by decide +kernel
theorem dX11_write_25 : decode cX11_write 25 = .ok (.ldc 85, 2) := by decide +kernel
theorem dX11_write_27 : decode cX11_write 27 = .ok (.ireturn, 1) := by decide +kernel
theorem dX11_write_28 : decode cX11_write 28 = .ok (.aload_n 0, 1) := by decide +kernel
theorem dX11_write_29 : decode cX11_write 29 = .ok (.getfield 60, 3) := by decide +kernel
theorem dX11_write_32 : decode cX11_write 32 = .ok (.iload_n 1, 1) := by decide +kernel
theorem dX11_write_33 : decode cX11_write 33 = .ok (.iload_n 2, 1) := by decide +kernel
theorem dX11_write_34 : decode cX11_write 34 = .ok (.invokevirtual 265, 3) := by decide +kernel
theorem dX11_write_37 : decode cX11_write 37 = .ok (.ifCond .eq 13, 3) := by decide +kernel
theorem dX11_write_40 : decode cX11_write 40 = .ok (.aload_n 0, 1) := by decide +kernel
theorem dX11_write_41 : decode cX11_write 41 = .ok (.getfield 60, 3) := by decide +kernel
theorem dX11_write_44 : decode cX11_write 44 = .ok (.getfield 146, 3) := by decide +kernel
theorem dX11_write_47 : decode cX11_write 47 = .ok (.goto 5, 3) := by decide +kernel
theorem dX11_write_50 : decode cX11_write 50 = .ok (.ldc 94, 2) := by decide +kernel
theorem dX11_write_52 : decode cX11_write 52 = .ok (.ireturn, 1) := by decide +kernel
set_option maxRecDepth 20000 in
theorem ggX11_judge_X5_firstWrong : GoodIn wsX11_judge wsX5_firstWrong := goodIn_r _ [8, 9, 10, 11, 12, 13, 14, 15, 16, 17, 18, 31, 32, 33, 34, 35, 36, 37, 38, 39, 40, 41, 42, 43, 44, 45, 46, 47, 48, 49] (by decide +kernel) (by decide +kernel)
set_option maxRecDepth 20000 in
theorem gX11_judge_X5_firstWrong : GoodIn wsX11_judge (wsV RX11 268 RX5 yX5_firstWrong wsX5_firstWrong) := goodIn_app (goodIn_of _ (by decide +kernel)) ggX11_judge_X5_firstWrong
theorem dX11_judge_0 : decode cX11_judge 0 = .ok (.aload_n 0, 1) := by decide +kernel
theorem dX11_judge_1 : decode cX11_judge 1 = .ok (.getfield 60, 3) := by decide +kernel
theorem dX11_judge_4 : decode cX11_judge 4 = .ok (.aload_n 0, 1) := by decide +kernel
theorem dX11_judge_5 : decode cX11_judge 5 = .ok (.getfield 19, 3) := by decide +kernel
theorem dX11_judge_8 : decode cX11_judge 8 = .ok (.aload_n 0, 1) := by decide +kernel
theorem dX11_judge_9 : decode cX11_judge 9 = .ok (.getfield 29, 3) := by decide +kernel
theorem dX11_judge_12 : decode cX11_judge 12 = .ok (.invokevirtual 268, 3) := by decide +kernel
theorem dX11_judge_15 : decode cX11_judge 15 = .ok (.ireturn, 1) := by decide +kernel
set_option maxRecDepth 20000 in
theorem ggX11_tear_X5_clear : GoodIn wsX11_tear wsX5_clear := goodIn_r _ [8, 9, 10, 23, 24, 25, 26, 27, 28] (by decide +kernel) (by decide +kernel)
set_option maxRecDepth 20000 in
theorem gX11_tear_X5_clear : GoodIn wsX11_tear (wsV RX11 108 RX5 yX5_clear wsX5_clear) := goodIn_app (goodIn_of _ (by decide +kernel)) ggX11_tear_X5_clear
theorem dX11_tear_0 : decode cX11_tear 0 = .ok (.aload_n 0, 1) := by decide +kernel
theorem dX11_tear_1 : decode cX11_tear 1 = .ok (.getfield 60, 3) := by decide +kernel
theorem dX11_tear_4 : decode cX11_tear 4 = .ok (.getfield 143, 3) := by decide +kernel
theorem dX11_tear_7 : decode cX11_tear 7 = .ok (.aload_n 0, 1) := by decide +kernel
theorem dX11_tear_8 : decode cX11_tear 8 = .ok (.getfield 60, 3) := by decide +kernel
theorem dX11_tear_11 : decode cX11_tear 11 = .ok (.getfield 146, 3) := by decide +kernel
theorem dX11_tear_14 : decode cX11_tear 14 = .ok (.iadd, 1) := by decide +kernel
theorem dX11_tear_15 : decode cX11_tear 15 = .ok (.istore_n 1, 1) := by decide +kernel
theorem dX11_tear_16 : decode cX11_tear 16 = .ok (.aload_n 0, 1) := by decide +kernel
theorem dX11_tear_17 : decode cX11_tear 17 = .ok (.getfield 60, 3) := by decide +kernel
theorem dX11_tear_20 : decode cX11_tear 20 = .ok (.invokevirtual 108, 3) := by decide +kernel
theorem dX11_tear_23 : decode cX11_tear 23 = .ok (.iload_n 1, 1) := by decide +kernel
theorem dX11_tear_24 : decode cX11_tear 24 = .ok (.ireturn, 1) := by decide +kernel
theorem dX11_seed_0 : decode cX11_seed 0 = .ok (.iload_n 1, 1) := by decide +kernel
theorem dX11_seed_1 : decode cX11_seed 1 = .ok (.ifCond .ge 6, 3) := by decide +kernel
theorem dX11_seed_4 : decode cX11_seed 4 = .ok (.ldc 85, 2) := by decide +kernel
theorem dX11_seed_6 : decode cX11_seed 6 = .ok (.ireturn, 1) := by decide +kernel
theorem dX11_seed_7 : decode cX11_seed 7 = .ok (.aload_n 0, 1) := by decide +kernel
theorem dX11_seed_8 : decode cX11_seed 8 = .ok (.getfield 53, 3) := by decide +kernel
theorem dX11_seed_11 : decode cX11_seed 11 = .ok (.getfield 271, 3) := by decide +kernel
theorem dX11_seed_14 : decode cX11_seed 14 = .ok (.istore_n 2, 1) := by decide +kernel
theorem dX11_seed_15 : decode cX11_seed 15 = .ok (.aload_n 0, 1) := by decide +kernel
theorem dX11_seed_16 : decode cX11_seed 16 = .ok (.getfield 53, 3) := by decide +kernel
theorem dX11_seed_19 : decode cX11_seed 19 = .ok (.iload_n 1, 1) := by decide +kernel
theorem dX11_seed_20 : decode cX11_seed 20 = .ok (.putfield 271, 3) := by decide +kernel
theorem dX11_seed_23 : decode cX11_seed 23 = .ok (.iload_n 2, 1) := by decide +kernel
theorem dX11_seed_24 : decode cX11_seed 24 = .ok (.ireturn, 1) := by decide +kernel
set_option maxRecDepth 20000 in
theorem ggX11_keep_X3_has : GoodIn wsX11_keep wsX3_has := goodIn_r _ [10] (by decide +kernel) (by decide +kernel)
set_option maxRecDepth 20000 in
theorem gX11_keep_X3_has : GoodIn wsX11_keep (wsV RX11 274 RX3 yX3_has wsX3_has) := goodIn_app (goodIn_of _ (by decide +kernel)) ggX11_keep_X3_has
set_option maxRecDepth 20000 in
theorem ggX11_keep_X3_store : GoodIn wsX11_keep wsX3_store := goodIn_r _ [14, 15, 16, 17, 18, 19, 7, 8, 9, 10, 20, 21, 22, 23, 24, 25, 26, 27, 28, 29, 30, 31, 32, 33, 34, 35, 55, 56, 57, 58, 59, 60, 61, 62, 63, 64, 65] (by decide +kernel) (by decide +kernel)
set_option maxRecDepth 20000 in
theorem gX11_keep_X3_store : GoodIn wsX11_keep (wsV RX11 275 RX3 yX3_store wsX3_store) := goodIn_app (goodIn_of _ (by decide +kernel)) ggX11_keep_X3_store
set_option maxRecDepth 20000 in
theorem ggX11_keep_X2_clear : GoodIn wsX11_keep wsX2_clear := goodIn_r _ [40, 41, 42, 66, 67, 68] (by decide +kernel) (by decide +kernel)
set_option maxRecDepth 20000 in
theorem gX11_keep_X2_clear : GoodIn wsX11_keep (wsV RX11 110 RX2 yX2_clear wsX2_clear) := goodIn_app (goodIn_of _ (by decide +kernel)) ggX11_keep_X2_clear
theorem dX11_keep_0 : decode cX11_keep 0 = .ok (.aload_n 0, 1) := by decide +kernel
theorem dX11_keep_1 : decode cX11_keep 1 = .ok (.getfield 46, 3) := by decide +kernel
theorem dX11_keep_4 : decode cX11_keep 4 = .ok (.iload_n 1, 1) := by decide +kernel
theorem dX11_keep_5 : decode cX11_keep 5 = .ok (.invokevirtual 274, 3) := by decide +kernel
theorem dX11_keep_8 : decode cX11_keep 8 = .ok (.ifCond .ne 6, 3) := by decide +kernel
theorem dX11_keep_11 : decode cX11_keep 11 = .ok (.ldc 155, 2) := by decide +kernel
theorem dX11_keep_13 : decode cX11_keep 13 = .ok (.ireturn, 1) := by decide +kernel
theorem dX11_keep_14 : decode cX11_keep 14 = .ok (.aload_n 0, 1) := by decide +kernel
theorem dX11_keep_15 : decode cX11_keep 15 = .ok (.getfield 46, 3) := by decide +kernel
theorem dX11_keep_18 : decode cX11_keep 18 = .ok (.iload_n 1, 1) := by decide +kernel
theorem dX11_keep_19 : decode cX11_keep 19 = .ok (.aload_n 0, 1) := by decide +kernel
theorem dX11_keep_20 : decode cX11_keep 20 = .ok (.getfield 29, 3) := by decide +kernel
theorem dX11_keep_23 : decode cX11_keep 23 = .ok (.aload_n 0, 1) := by decide +kernel
theorem dX11_keep_24 : decode cX11_keep 24 = .ok (.getfield 53, 3) := by decide +kernel
theorem dX11_keep_27 : decode cX11_keep 27 = .ok (.invokevirtual 275, 3) := by decide +kernel
theorem dX11_keep_30 : decode cX11_keep 30 = .ok (.aload_n 0, 1) := by decide +kernel
theorem dX11_keep_31 : decode cX11_keep 31 = .ok (.getfield 39, 3) := by decide +kernel
theorem dX11_keep_34 : decode cX11_keep 34 = .ok (.invokevirtual 110, 3) := by decide +kernel
theorem dX11_keep_37 : decode cX11_keep 37 = .ok (.iconst 1, 1) := by decide +kernel
theorem dX11_keep_38 : decode cX11_keep 38 = .ok (.ireturn, 1) := by decide +kernel
set_option maxRecDepth 20000 in
theorem ggX11_goBack_X3_has : GoodIn wsX11_goBack wsX3_has := goodIn_r _ [11] (by decide +kernel) (by decide +kernel)
set_option maxRecDepth 20000 in
theorem gX11_goBack_X3_has : GoodIn wsX11_goBack (wsV RX11 274 RX3 yX3_has wsX3_has) := goodIn_app (goodIn_of _ (by decide +kernel)) ggX11_goBack_X3_has
set_option maxRecDepth 20000 in
theorem ggX11_goBack_X3_fetch : GoodIn wsX11_goBack wsX3_fetch := goodIn_r _ [15, 16, 17, 18, 19, 20, 8, 9, 10, 11, 21, 22, 23, 24, 25, 26, 27, 28, 29, 30, 31, 32, 33, 34, 35, 36, 56, 57, 58, 59, 60, 61, 62, 63, 64, 65, 66] (by decide +kernel) (by decide +kernel)
set_option maxRecDepth 20000 in
theorem gX11_goBack_X3_fetch : GoodIn wsX11_goBack (wsV RX11 279 RX3 yX3_fetch wsX3_fetch) := goodIn_app (goodIn_of _ (by decide +kernel)) ggX11_goBack_X3_fetch
set_option maxRecDepth 20000 in
theorem ggX11_goBack_X2_clear : GoodIn wsX11_goBack wsX2_clear := goodIn_r _ [41, 42, 43, 67, 68, 69] (by decide +kernel) (by decide +kernel)
set_option maxRecDepth 20000 in
theorem gX11_goBack_X2_clear : GoodIn wsX11_goBack (wsV RX11 110 RX2 yX2_clear wsX2_clear) := goodIn_app (goodIn_of _ (by decide +kernel)) ggX11_goBack_X2_clear
theorem dX11_goBack_0 : decode cX11_goBack 0 = .ok (.aload_n 0, 1) := by decide +kernel
theorem dX11_goBack_1 : decode cX11_goBack 1 = .ok (.getfield 46, 3) := by decide +kernel
theorem dX11_goBack_4 : decode cX11_goBack 4 = .ok (.iload_n 1, 1) := by decide +kernel
theorem dX11_goBack_5 : decode cX11_goBack 5 = .ok (.invokevirtual 274, 3) := by decide +kernel
theorem dX11_goBack_8 : decode cX11_goBack 8 = .ok (.ifCond .ne 6, 3) := by decide +kernel
theorem dX11_goBack_11 : decode cX11_goBack 11 = .ok (.ldc 155, 2) := by decide +kernel
theorem dX11_goBack_13 : decode cX11_goBack 13 = .ok (.ireturn, 1) := by decide +kernel
theorem dX11_goBack_14 : decode cX11_goBack 14 = .ok (.aload_n 0, 1) := by decide +kernel
theorem dX11_goBack_15 : decode cX11_goBack 15 = .ok (.getfield 46, 3) := by decide +kernel
theorem dX11_goBack_18 : decode cX11_goBack 18 = .ok (.iload_n 1, 1) := by decide +kernel
theorem dX11_goBack_19 : decode cX11_goBack 19 = .ok (.aload_n 0, 1) := by decide +kernel
theorem dX11_goBack_20 : decode cX11_goBack 20 = .ok (.getfield 29, 3) := by decide +kernel
theorem dX11_goBack_23 : decode cX11_goBack 23 = .ok (.aload_n 0, 1) := by decide +kernel
theorem dX11_goBack_24 : decode cX11_goBack 24 = .ok (.getfield 53, 3) := by decide +kernel
theorem dX11_goBack_27 : decode cX11_goBack 27 = .ok (.invokevirtual 279, 3) := by decide +kernel
theorem dX11_goBack_30 : decode cX11_goBack 30 = .ok (.ifCond .ne 6, 3) := by decide +kernel
theorem dX11_goBack_33 : decode cX11_goBack 33 = .ok (.ldc 187, 2) := by decide +kernel
theorem dX11_goBack_35 : decode cX11_goBack 35 = .ok (.ireturn, 1) := by decide +kernel
theorem dX11_goBack_36 : decode cX11_goBack 36 = .ok (.aload_n 0, 1) := by decide +kernel
theorem dX11_goBack_37 : decode cX11_goBack 37 = .ok (.getfield 39, 3) := by decide +kernel
theorem dX11_goBack_40 : decode cX11_goBack 40 = .ok (.invokevirtual 110, 3) := by decide +kernel
theorem dX11_goBack_43 : decode cX11_goBack 43 = .ok (.iconst 1, 1) := by decide +kernel
theorem dX11_goBack_44 : decode cX11_goBack 44 = .ok (.ireturn, 1) := by decide +kernel
theorem dX11_isLent_0 : decode cX11_isLent 0 = .ok (.aload_n 0, 1) := by decide +kernel
theorem dX11_isLent_1 : decode cX11_isLent 1 = .ok (.getfield 29, 3) := by decide +kernel
theorem dX11_isLent_4 : decode cX11_isLent 4 = .ok (.getfield 123, 3) := by decide +kernel
theorem dX11_isLent_7 : decode cX11_isLent 7 = .ok (.aload_n 0, 1) := by decide +kernel
theorem dX11_isLent_8 : decode cX11_isLent 8 = .ok (.getfield 19, 3) := by decide +kernel
theorem dX11_isLent_11 : decode cX11_isLent 11 = .ok (.getfield 117, 3) := by decide +kernel
theorem dX11_isLent_14 : decode cX11_isLent 14 = .ok (.if_icmp .ge 7, 3) := by decide +kernel
theorem dX11_isLent_17 : decode cX11_isLent 17 = .ok (.iconst 1, 1) := by decide +kernel
theorem dX11_isLent_18 : decode cX11_isLent 18 = .ok (.goto 4, 3) := by decide +kernel
theorem dX11_isLent_21 : decode cX11_isLent 21 = .ok (.iconst 0, 1) := by decide +kernel
theorem dX11_isLent_22 : decode cX11_isLent 22 = .ok (.ireturn, 1) := by decide +kernel
theorem dX11_lentLeft_0 : decode cX11_lentLeft 0 = .ok (.iconst 0, 1) := by decide +kernel
theorem dX11_lentLeft_1 : decode cX11_lentLeft 1 = .ok (.aload_n 0, 1) := by decide +kernel
theorem dX11_lentLeft_2 : decode cX11_lentLeft 2 = .ok (.getfield 19, 3) := by decide +kernel
theorem dX11_lentLeft_5 : decode cX11_lentLeft 5 = .ok (.getfield 117, 3) := by decide +kernel
theorem dX11_lentLeft_8 : decode cX11_lentLeft 8 = .ok (.aload_n 0, 1) := by decide +kernel
theorem dX11_lentLeft_9 : decode cX11_lentLeft 9 = .ok (.getfield 29, 3) := by decide +kernel
theorem dX11_lentLeft_12 : decode cX11_lentLeft 12 = .ok (.getfield 123, 3) := by decide +kernel
theorem dX11_lentLeft_15 : decode cX11_lentLeft 15 = .ok (.isub, 1) := by decide +kernel
theorem dX11_lentLeft_16 : decode cX11_lentLeft 16 = .ok (.invokestatic 259, 3) := by decide +kernel
theorem dX11_lentLeft_19 : decode cX11_lentLeft 19 = .ok (.ireturn, 1) := by decide +kernel
theorem dX11_refuseDays_0 : decode cX11_refuseDays 0 = .ok (.iload_n 1, 1) := by decide +kernel
