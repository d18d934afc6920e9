set_option maxRecDepth 20000 in
theorem ggX2_init_X1_init : GoodIn wsX2_init wsX1_init := goodIn_r _ [21, 22, 2, 3, 4, 23, 24, 25, 26, 27, 28, 40, 41] (by decide +kernel) (by decide +kernel)
set_option maxRecDepth 20000 in
theorem gX2_init_X1_init : GoodIn wsX2_init (wsX1_init) := ggX2_init_X1_init
theorem dX2_init_0 : decode cX2_init 0 = .ok (.aload_n 0, 1) := by decide +kernel
theorem dX2_init_1 : decode cX2_init 1 = .ok (.invokespecial 3, 3) := by decide +kernel
theorem dX2_init_4 : decode cX2_init 4 = .ok (.aload_n 0, 1) := by decide +kernel
theorem dX2_init_5 : decode cX2_init 5 = .ok (.sipush 1296, 3) := by decide +kernel
theorem dX2_init_8 : decode cX2_init 8 = .ok (.newarray .int, 2) := by decide +kernel
theorem dX2_init_10 : decode cX2_init 10 = .ok (.putfield 11, 3) := by decide +kernel
theorem dX2_init_13 : decode cX2_init 13 = .ok (.aload_n 0, 1) := by decide +kernel
theorem dX2_init_14 : decode cX2_init 14 = .ok (.sipush 1296, 3) := by decide +kernel
theorem dX2_init_17 : decode cX2_init 17 = .ok (.newarray .int, 2) := by decide +kernel
theorem dX2_init_19 : decode cX2_init 19 = .ok (.putfield 15, 3) := by decide +kernel
theorem dX2_init_22 : decode cX2_init 22 = .ok (.aload_n 0, 1) := by decide +kernel
theorem dX2_init_23 : decode cX2_init 23 = .ok (.sipush 1296, 3) := by decide +kernel
theorem dX2_init_26 : decode cX2_init 26 = .ok (.newarray .int, 2) := by decide +kernel
theorem dX2_init_28 : decode cX2_init 28 = .ok (.putfield 18, 3) := by decide +kernel
theorem dX2_init_31 : decode cX2_init 31 = .ok (.aload_n 0, 1) := by decide +kernel
theorem dX2_init_32 : decode cX2_init 32 = .ok (.sipush 7776, 3) := by decide +kernel
theorem dX2_init_35 : decode cX2_init 35 = .ok (.newarray .boolean, 2) := by decide +kernel
theorem dX2_init_37 : decode cX2_init 37 = .ok (.putfield 21, 3) := by decide +kernel
theorem dX2_init_40 : decode cX2_init 40 = .ok (.aload_n 0, 1) := by decide +kernel
theorem dX2_init_41 : decode cX2_init 41 = .ok (.bipush 32, 2) := by decide +kernel
theorem dX2_init_43 : decode cX2_init 43 = .ok (.newarray .int, 2) := by decide +kernel
theorem dX2_init_45 : decode cX2_init 45 = .ok (.putfield 25, 3) := by decide +kernel
theorem dX2_init_48 : decode cX2_init 48 = .ok (.aload_n 0, 1) := by decide +kernel
theorem dX2_init_49 : decode cX2_init 49 = .ok (.iconst (-1), 1) := by decide +kernel
theorem dX2_init_50 : decode cX2_init 50 = .ok (.putfield 28, 3) := by decide +kernel
theorem dX2_init_53 : decode cX2_init 53 = .ok (.aload_n 0, 1) := by decide +kernel
theorem dX2_init_54 : decode cX2_init 54 = .ok (.iconst (-1), 1) := by decide +kernel
theorem dX2_init_55 : decode cX2_init 55 = .ok (.putfield 32, 3) := by decide +kernel
theorem dX2_init_58 : decode cX2_init 58 = .ok (.aload_n 0, 1) := by decide +kernel
theorem dX2_init_59 : decode cX2_init 59 = .ok (.aload_n 1, 1) := by decide +kernel
theorem dX2_init_60 : decode cX2_init 60 = .ok (.putfield 35, 3) := by decide +kernel
theorem dX2_init_63 : decode cX2_init 63 = .ok (.aload_n 0, 1) := by decide +kernel
theorem dX2_init_64 : decode cX2_init 64 = .ok (.new 39, 3) := by decide +kernel
theorem dX2_init_67 : decode cX2_init 67 = .ok (.dup, 1) := by decide +kernel
theorem dX2_init_68 : decode cX2_init 68 = .ok (.aload_n 1, 1) := by decide +kernel
theorem dX2_init_69 : decode cX2_init 69 = .ok (.invokespecial 41, 3) := by decide +kernel
theorem dX2_init_72 : decode cX2_init 72 = .ok (.putfield 44, 3) := by decide +kernel
theorem dX2_init_75 : decode cX2_init 75 = .ok (.aload_n 0, 1) := by decide +kernel
theorem dX2_init_76 : decode cX2_init 76 = .ok (.new 39, 3) := by decide +kernel
theorem dX2_init_79 : decode cX2_init 79 = .ok (.dup, 1) := by decide +kernel
theorem dX2_init_80 : decode cX2_init 80 = .ok (.aload_n 1, 1) := by decide +kernel
theorem dX2_init_81 : decode cX2_init 81 = .ok (.invokespecial 41, 3) := by decide +kernel
theorem dX2_init_84 : decode cX2_init 84 = .ok (.putfield 48, 3) := by decide +kernel
theorem dX2_init_87 : decode cX2_init 87 = .ok (.return_, 1) := by decide +kernel
set_option maxRecDepth 20000 in
theorem ggX2_lookFrom_X1_toNumber : GoodIn wsX2_lookFrom wsX1_toNumber := goodIn_r _ [11, 12, 124, 125] (by decide +kernel) (by decide +kernel)
set_option maxRecDepth 20000 in
theorem gX2_lookFrom_X1_toNumber : GoodIn wsX2_lookFrom (wsV RX2 51 RX1 yX1_toNumber wsX1_toNumber) := goodIn_app (goodIn_of _ (by decide +kernel)) ggX2_lookFrom_X1_toNumber
set_option maxRecDepth 20000 in
theorem ggX2_lookFrom_X0_total : GoodIn wsX2_lookFrom wsX0_total := goodIn_r _ [17, 18, 126, 127] (by decide +kernel) (by decide +kernel)
set_option maxRecDepth 20000 in
theorem gX2_lookFrom_X0_total : GoodIn wsX2_lookFrom (wsV RX2 55 RX0 yX0_total wsX0_total) := goodIn_app (goodIn_of _ (by decide +kernel)) ggX2_lookFrom_X0_total
set_option maxRecDepth 20000 in
theorem ggX2_lookFrom_X2_reach : GoodIn wsX2_lookFrom wsX2_reach := goodIn_r _ [23, 4, 5, 6, 24, 25, 113, 114, 115, 116, 117, 118, 119, 120, 121, 122, 123] (by decide +kernel) (by decide +kernel)
set_option maxRecDepth 20000 in
theorem gX2_lookFrom_X2_reach : GoodIn wsX2_lookFrom (wsV RX2 62 RX2 yX2_reach wsX2_reach) := goodIn_app (goodIn_of _ (by decide +kernel)) ggX2_lookFrom_X2_reach
set_option maxRecDepth 20000 in
theorem ggX2_lookFrom_X2_spread : GoodIn wsX2_lookFrom wsX2_spread := goodIn_r _ [29, 30, 31, 32, 33, 34, 22, 35, 6, 36, 37, 38, 10, 39, 12, 40, 41, 42, 43, 24, 44, 45, 46, 47, 25, 48, 49, 50, 51, 52, 53, 54, 55, 16, 56, 57, 58, 59, 60, 61, 62, 63, 64, 65, 18, 66, 67, 68, 69, 70, 71, 72, 73, 74, 75, 76, 77, 78, 79, 80, 81, 82, 83, 84, 85, 86, 87, 88, 89, 90, 91, 92, 14, 15, 17, 93, 94, 95, 96, 97, 98, 99, 100, 101, 102, 103, 104, 105, 106, 107, 108, 109, 110, 111, 112, 7, 8, 9, 11, 19, 20, 21, 23, 4, 5, 113, 114, 115, 116, 117, 118, 119, 120, 121, 122, 123, 124, 125, 126, 127] (by decide +kernel) (by decide +kernel)
set_option maxRecDepth 20000 in
theorem gX2_lookFrom_X2_spread : GoodIn wsX2_lookFrom (wsV RX2 66 RX2 yX2_spread wsX2_spread) := goodIn_app (goodIn_of _ (by decide +kernel)) ggX2_lookFrom_X2_spread
theorem dX2_lookFrom_0 : decode cX2_lookFrom 0 = .ok (.aload_n 1, 1) := by decide +kernel
theorem dX2_lookFrom_1 : decode cX2_lookFrom 1 = .ok (.invokevirtual 51, 3) := by decide +kernel
theorem dX2_lookFrom_4 : decode cX2_lookFrom 4 = .ok (.istore_n 2, 1) := by decide +kernel
theorem dX2_lookFrom_5 : decode cX2_lookFrom 5 = .ok (.iload_n 2, 1) := by decide +kernel
theorem dX2_lookFrom_6 : decode cX2_lookFrom 6 = .ok (.aload_n 0, 1) := by decide +kernel
theorem dX2_lookFrom_7 : decode cX2_lookFrom 7 = .ok (.getfield 28, 3) := by decide +kernel
theorem dX2_lookFrom_10 : decode cX2_lookFrom 10 = .ok (.if_icmp .ne 18, 3) := by decide +kernel
theorem dX2_lookFrom_13 : decode cX2_lookFrom 13 = .ok (.aload_n 0, 1) := by decide +kernel
theorem dX2_lookFrom_14 : decode cX2_lookFrom 14 = .ok (.getfield 35, 3) := by decide +kernel
theorem dX2_lookFrom_17 : decode cX2_lookFrom 17 = .ok (.invokevirtual 55, 3) := by decide +kernel
theorem dX2_lookFrom_20 : decode cX2_lookFrom 20 = .ok (.aload_n 0, 1) := by decide +kernel
theorem dX2_lookFrom_21 : decode cX2_lookFrom 21 = .ok (.getfield 32, 3) := by decide +kernel
theorem dX2_lookFrom_24 : decode cX2_lookFrom 24 = .ok (.if_icmp .ne 4, 3) := by decide +kernel
theorem dX2_lookFrom_27 : decode cX2_lookFrom 27 = .ok (.return_, 1) := by decide +kernel
theorem dX2_lookFrom_28 : decode cX2_lookFrom 28 = .ok (.aload_n 0, 1) := by decide +kernel
theorem dX2_lookFrom_29 : decode cX2_lookFrom 29 = .ok (.iload_n 2, 1) := by decide +kernel
theorem dX2_lookFrom_30 : decode cX2_lookFrom 30 = .ok (.putfield 28, 3) := by decide +kernel
theorem dX2_lookFrom_33 : decode cX2_lookFrom 33 = .ok (.aload_n 0, 1) := by decide +kernel
theorem dX2_lookFrom_34 : decode cX2_lookFrom 34 = .ok (.aload_n 0, 1) := by decide +kernel
theorem dX2_lookFrom_35 : decode cX2_lookFrom 35 = .ok (.getfield 35, 3) := by decide +kernel
theorem dX2_lookFrom_38 : decode cX2_lookFrom 38 = .ok (.invokevirtual 55, 3) := by decide +kernel
theorem dX2_lookFrom_41 : decode cX2_lookFrom 41 = .ok (.putfield 32, 3) := by decide +kernel
theorem dX2_lookFrom_44 : decode cX2_lookFrom 44 = .ok (.iconst 0, 1) := by decide +kernel
theorem dX2_lookFrom_45 : decode cX2_lookFrom 45 = .ok (.istore_n 3, 1) := by decide +kernel
theorem dX2_lookFrom_46 : decode cX2_lookFrom 46 = .ok (.iload_n 3, 1) := by decide +kernel
theorem dX2_lookFrom_47 : decode cX2_lookFrom 47 = .ok (.aload_n 0, 1) := by decide +kernel
theorem dX2_lookFrom_48 : decode cX2_lookFrom 48 = .ok (.getfield 21, 3) := by decide +kernel
theorem dX2_lookFrom_51 : decode cX2_lookFrom 51 = .ok (.arraylength, 1) := by decide +kernel
theorem dX2_lookFrom_52 : decode cX2_lookFrom 52 = .ok (.if_icmp .ge 16, 3) := by decide +kernel
theorem dX2_lookFrom_55 : decode cX2_lookFrom 55 = .ok (.aload_n 0, 1) := by decide +kernel
theorem dX2_lookFrom_56 : decode cX2_lookFrom 56 = .ok (.getfield 21, 3) := by decide +kernel
theorem dX2_lookFrom_59 : decode cX2_lookFrom 59 = .ok (.iload_n 3, 1) := by decide +kernel
theorem dX2_lookFrom_60 : decode cX2_lookFrom 60 = .ok (.iconst 0, 1) := by decide +kernel
theorem dX2_lookFrom_61 : decode cX2_lookFrom 61 = .ok (.bastore, 1) := by decide +kernel
theorem dX2_lookFrom_62 : decode cX2_lookFrom 62 = .ok (.iinc 3 1, 3) := by decide +kernel
theorem dX2_lookFrom_65 : decode cX2_lookFrom 65 = .ok (.goto (-19), 3) := by decide +kernel
theorem dX2_lookFrom_68 : decode cX2_lookFrom 68 = .ok (.aload_n 0, 1) := by decide +kernel
theorem dX2_lookFrom_69 : decode cX2_lookFrom 69 = .ok (.iconst 0, 1) := by decide +kernel
theorem dX2_lookFrom_70 : decode cX2_lookFrom 70 = .ok (.putfield 60, 3) := by decide +kernel
theorem dX2_lookFrom_73 : decode cX2_lookFrom 73 = .ok (.aload_n 0, 1) := by decide +kernel
theorem dX2_lookFrom_74 : decode cX2_lookFrom 74 = .ok (.iload_n 2, 1) := by decide +kernel
theorem dX2_lookFrom_75 : decode cX2_lookFrom 75 = .ok (.iconst 0, 1) := by decide +kernel
theorem dX2_lookFrom_76 : decode cX2_lookFrom 76 = .ok (.iconst (-1), 1) := by decide +kernel
theorem dX2_lookFrom_77 : decode cX2_lookFrom 77 = .ok (.invokevirtual 62, 3) := by decide +kernel
theorem dX2_lookFrom_80 : decode cX2_lookFrom 80 = .ok (.iconst 0, 1) := by decide +kernel
theorem dX2_lookFrom_81 : decode cX2_lookFrom 81 = .ok (.istore_n 3, 1) := by decide +kernel
theorem dX2_lookFrom_82 : decode cX2_lookFrom 82 = .ok (.iload_n 3, 1) := by decide +kernel
theorem dX2_lookFrom_83 : decode cX2_lookFrom 83 = .ok (.aload_n 0, 1) := by decide +kernel
theorem dX2_lookFrom_84 : decode cX2_lookFrom 84 = .ok (.getfield 60, 3) := by decide +kernel
theorem dX2_lookFrom_87 : decode cX2_lookFrom 87 = .ok (.if_icmp .ge 23, 3) := by decide +kernel
theorem dX2_lookFrom_90 : decode cX2_lookFrom 90 = .ok (.iload_n 3, 1) := by decide +kernel
theorem dX2_lookFrom_91 : decode cX2_lookFrom 91 = .ok (.aload_n 0, 1) := by decide +kernel
theorem dX2_lookFrom_92 : decode cX2_lookFrom 92 = .ok (.getfield 11, 3) := by decide +kernel
theorem dX2_lookFrom_95 : decode cX2_lookFrom 95 = .ok (.arraylength, 1) := by decide +kernel
theorem dX2_lookFrom_96 : decode cX2_lookFrom 96 = .ok (.if_icmp .ge 14, 3) := by decide +kernel
theorem dX2_lookFrom_99 : decode cX2_lookFrom 99 = .ok (.aload_n 0, 1) := by decide +kernel
theorem dX2_lookFrom_100 : decode cX2_lookFrom 100 = .ok (.iload_n 3, 1) := by decide +kernel
theorem dX2_lookFrom_101 : decode cX2_lookFrom 101 = .ok (.invokevirtual 66, 3) := by decide +kernel
theorem dX2_lookFrom_104 : decode cX2_lookFrom 104 = .ok (.iinc 3 1, 3) := by decide +kernel
theorem dX2_lookFrom_107 : decode cX2_lookFrom 107 = .ok (.goto (-25), 3) := by decide +kernel
theorem dX2_lookFrom_110 : decode cX2_lookFrom 110 = .ok (.return_, 1) := by decide +kernel
set_option maxRecDepth 20000 in
theorem ggX2_spread_X2_reachedAt : GoodIn wsX2_spread wsX2_reachedAt := goodIn_r _ [7, 8, 105, 106, 107, 108, 109, 110, 111, 112, 113, 114, 115] (by decide +kernel) (by decide +kernel)
set_option maxRecDepth 20000 in
theorem gX2_spread_X2_reachedAt : GoodIn wsX2_spread (wsV RX2 70 RX2 yX2_reachedAt wsX2_reachedAt) := goodIn_app (goodIn_of _ (by decide +kernel)) ggX2_spread_X2_reachedAt
set_option maxRecDepth 20000 in
theorem ggX2_spread_X1_become : GoodIn wsX2_spread wsX1_become := goodIn_r _ [13, 14, 116, 117] (by decide +kernel) (by decide +kernel)
set_option maxRecDepth 20000 in
theorem gX2_spread_X1_become : GoodIn wsX2_spread (wsV RX2 74 RX1 yX1_become wsX1_become) := goodIn_app (goodIn_of _ (by decide +kernel)) ggX2_spread_X1_become
set_option maxRecDepth 20000 in
theorem ggX2_spread_X2_stepsAt : GoodIn wsX2_spread wsX2_stepsAt := goodIn_r _ [18, 19, 105, 106, 107, 108, 109, 110, 111, 112, 113, 114, 115] (by decide +kernel) (by decide +kernel)
set_option maxRecDepth 20000 in
theorem gX2_spread_X2_stepsAt : GoodIn wsX2_spread (wsV RX2 77 RX2 yX2_stepsAt wsX2_stepsAt) := goodIn_app (goodIn_of _ (by decide +kernel)) ggX2_spread_X2_stepsAt
set_option maxRecDepth 20000 in
theorem ggX2_spread_X2_firstAt : GoodIn wsX2_spread wsX2_firstAt := goodIn_r _ [23, 24, 105, 106, 107, 108, 109, 110, 111, 112, 113, 114, 115] (by decide +kernel) (by decide +kernel)
set_option maxRecDepth 20000 in
theorem gX2_spread_X2_firstAt : GoodIn wsX2_spread (wsV RX2 80 RX2 yX2_firstAt wsX2_firstAt) := goodIn_app (goodIn_of _ (by decide +kernel)) ggX2_spread_X2_firstAt
set_option maxRecDepth 20000 in
theorem ggX2_spread_X1_allows : GoodIn wsX2_spread wsX1_allows := goodIn_r _ [28, 29, 30, 31, 32, 33, 34, 35, 36, 37, 38, 39, 40, 41, 42, 43, 44, 45, 46, 47, 48, 49, 50, 12, 51, 52, 53, 54, 55, 14, 56, 57, 58, 59, 60, 61, 62, 63, 64, 65, 66, 67, 68, 69, 70, 71, 72, 73, 74, 75, 76, 77, 78, 79, 80, 81, 82, 116, 117, 118, 119] (by decide +kernel) (by decide +kernel)
set_option maxRecDepth 20000 in
theorem gX2_spread_X1_allows : GoodIn wsX2_spread (wsV RX2 83 RX1 yX1_allows wsX1_allows) := goodIn_app (goodIn_of _ (by decide +kernel)) ggX2_spread_X1_allows
set_option maxRecDepth 20000 in
theorem ggX2_spread_X1_copy : GoodIn wsX2_spread wsX1_copy := goodIn_r _ [86, 14, 52, 53, 54, 12, 55, 116, 117] (by decide +kernel) (by decide +kernel)
set_option maxRecDepth 20000 in
theorem gX2_spread_X1_copy : GoodIn wsX2_spread (wsV RX2 87 RX1 yX1_copy wsX1_copy) := goodIn_app (goodIn_of _ (by decide +kernel)) ggX2_spread_X1_copy
set_option maxRecDepth 20000 in
theorem ggX2_spread_X1_carryOut : GoodIn wsX2_spread wsX1_carryOut := goodIn_r _ [90, 14, 38, 36, 39, 45, 46, 47, 91, 92, 93, 12, 94, 75, 76, 77, 78, 29, 56, 57, 58, 33, 59, 60, 61, 62, 63, 64, 65, 71, 72, 73, 74, 44, 52, 53, 54, 55, 116, 117, 118, 119] (by decide +kernel) (by decide +kernel)
set_option maxRecDepth 20000 in
theorem gX2_spread_X1_carryOut : GoodIn wsX2_spread (wsV RX2 91 RX1 yX1_carryOut wsX1_carryOut) := goodIn_app (goodIn_of _ (by decide +kernel)) ggX2_spread_X1_carryOut
set_option maxRecDepth 20000 in
theorem ggX2_spread_X1_toNumber : GoodIn wsX2_spread wsX1_toNumber := goodIn_r _ [98, 14, 116, 117] (by decide +kernel) (by decide +kernel)
set_option maxRecDepth 20000 in
theorem gX2_spread_X1_toNumber : GoodIn wsX2_spread (wsV RX2 51 RX1 yX1_toNumber wsX1_toNumber) := goodIn_app (goodIn_of _ (by decide +kernel)) ggX2_spread_X1_toNumber
set_option maxRecDepth 20000 in
theorem ggX2_spread_X2_reach : GoodIn wsX2_spread wsX2_reach := goodIn_r _ [102, 103, 104, 8, 19, 24, 105, 106, 107, 108, 109, 110, 111, 112, 113, 114, 115] (by decide +kernel) (by decide +kernel)
set_option maxRecDepth 20000 in
theorem gX2_spread_X2_reach : GoodIn wsX2_spread (wsV RX2 62 RX2 yX2_reach wsX2_reach) := goodIn_app (goodIn_of _ (by decide +kernel)) ggX2_spread_X2_reach
theorem dX2_spread_0 : decode cX2_spread 0 = .ok (.aload_n 0, 1) := by decide +kernel
theorem dX2_spread_1 : decode cX2_spread 1 = .ok (.getfield 44, 3) := by decide +kernel
theorem dX2_spread_4 : decode cX2_spread 4 = .ok (.aload_n 0, 1) := by decide +kernel
theorem dX2_spread_5 : decode cX2_spread 5 = .ok (.iload_n 1, 1) := by decide +kernel
theorem dX2_spread_6 : decode cX2_spread 6 = .ok (.invokevirtual 70, 3) := by decide +kernel
theorem dX2_spread_9 : decode cX2_spread 9 = .ok (.invokevirtual 74, 3) := by decide +kernel
theorem dX2_spread_12 : decode cX2_spread 12 = .ok (.aload_n 0, 1) := by decide +kernel
theorem dX2_spread_13 : decode cX2_spread 13 = .ok (.iload_n 1, 1) := by decide +kernel
theorem dX2_spread_14 : decode cX2_spread 14 = .ok (.invokevirtual 77, 3) := by decide +kernel
theorem dX2_spread_17 : decode cX2_spread 17 = .ok (.iconst 1, 1) := by decide +kernel
theorem dX2_spread_18 : decode cX2_spread 18 = .ok (.iadd, 1) := by decide +kernel
theorem dX2_spread_19 : decode cX2_spread 19 = .ok (.istore_n 2, 1) := by decide +kernel
theorem dX2_spread_20 : decode cX2_spread 20 = .ok (.aload_n 0, 1) := by decide +kernel
theorem dX2_spread_21 : decode cX2_spread 21 = .ok (.iload_n 1, 1) := by decide +kernel
theorem dX2_spread_22 : decode cX2_spread 22 = .ok (.invokevirtual 80, 3) := by decide +kernel
theorem dX2_spread_25 : decode cX2_spread 25 = .ok (.istore_n 3, 1) := by decide +kernel
theorem dX2_spread_26 : decode cX2_spread 26 = .ok (.iconst 0, 1) := by decide +kernel
theorem dX2_spread_27 : decode cX2_spread 27 = .ok (.istore 4, 2) := by decide +kernel
theorem dX2_spread_29 : decode cX2_spread 29 = .ok (.iload 4, 2) := by decide +kernel
theorem dX2_spread_31 : decode cX2_spread 31 = .ok (.bipush 45, 2) := by decide +kernel
theorem dX2_spread_33 : decode cX2_spread 33 = .ok (.if_icmp .ge 64, 3) := by decide +kernel
theorem dX2_spread_36 : decode cX2_spread 36 = .ok (.aload_n 0, 1) := by decide +kernel
theorem dX2_spread_37 : decode cX2_spread 37 = .ok (.getfield 44, 3) := by decide +kernel
theorem dX2_spread_40 : decode cX2_spread 40 = .ok (.iload 4, 2) := by decide +kernel
theorem dX2_spread_42 : decode cX2_spread 42 = .ok (.invokevirtual 83, 3) := by decide +kernel
theorem dX2_spread_45 : decode cX2_spread 45 = .ok (.ifCond .eq 46, 3) := by decide +kernel
theorem dX2_spread_48 : decode cX2_spread 48 = .ok (.aload_n 0, 1) := by decide +kernel
theorem dX2_spread_49 : decode cX2_spread 49 = .ok (.getfield 48, 3) := by decide +kernel
theorem dX2_spread_52 : decode cX2_spread 52 = .ok (.aload_n 0, 1) := by decide +kernel
theorem dX2_spread_53 : decode cX2_spread 53 = .ok (.getfield 44, 3) := by decide +kernel
theorem dX2_spread_56 : decode cX2_spread 56 = .ok (.invokevirtual 87, 3) := by decide +kernel
theorem dX2_spread_59 : decode cX2_spread 59 = .ok (.aload_n 0, 1) := by decide +kernel
theorem dX2_spread_60 : decode cX2_spread 60 = .ok (.getfield 48, 3) := by decide +kernel
theorem dX2_spread_63 : decode cX2_spread 63 = .ok (.iload 4, 2) := by decide +kernel
theorem dX2_spread_65 : decode cX2_spread 65 = .ok (.invokevirtual 91, 3) := by decide +kernel
theorem dX2_spread_68 : decode cX2_spread 68 = .ok (.aload_n 0, 1) := by decide +kernel
theorem dX2_spread_69 : decode cX2_spread 69 = .ok (.aload_n 0, 1) := by decide +kernel
theorem dX2_spread_70 : decode cX2_spread 70 = .ok (.getfield 48, 3) := by decide +kernel
theorem dX2_spread_73 : decode cX2_spread 73 = .ok (.invokevirtual 51, 3) := by decide +kernel
theorem dX2_spread_76 : decode cX2_spread 76 = .ok (.iload_n 2, 1) := by decide +kernel
theorem dX2_spread_77 : decode cX2_spread 77 = .ok (.iload_n 3, 1) := by decide +kernel
theorem dX2_spread_78 : decode cX2_spread 78 = .ok (.iconst (-1), 1) := by decide +kernel
theorem dX2_spread_79 : decode cX2_spread 79 = .ok (.if_icmp .ne 8, 3) := by decide +kernel
theorem dX2_spread_82 : decode cX2_spread 82 = .ok (.iload 4, 2) := by decide +kernel
theorem dX2_spread_84 : decode cX2_spread 84 = .ok (.goto 4, 3) := by decide +kernel
theorem dX2_spread_87 : decode cX2_spread 87 = .ok (.iload_n 3, 1) := by decide +kernel
theorem dX2_spread_88 : decode cX2_spread 88 = .ok (.invokevirtual 62, 3) := by decide +kernel
theorem dX2_spread_91 : decode cX2_spread 91 = .ok (.iinc 4 1, 3) := by decide +kernel
theorem dX2_spread_94 : decode cX2_spread 94 = .ok (.goto (-65), 3) := by decide +kernel
theorem dX2_spread_97 : decode cX2_spread 97 = .ok (.return_, 1) := by decide +kernel
theorem dX2_reach_0 : decode cX2_reach 0 = .ok (.iload_n 1, 1) := by decide +kernel
theorem dX2_reach_1 : decode cX2_reach 1 = .ok (.ifCond .lt 21, 3) := by decide +kernel
theorem dX2_reach_4 : decode cX2_reach 4 = .ok (.iload_n 1, 1) := by decide +kernel
theorem dX2_reach_5 : decode cX2_reach 5 = .ok (.aload_n 0, 1) := by decide +kernel
theorem dX2_reach_6 : decode cX2_reach 6 = .ok (.getfield 21, 3) := by decide +kernel
theorem dX2_reach_9 : decode cX2_reach 9 = .ok (.arraylength, 1) := by decide +kernel
theorem dX2_reach_10 : decode cX2_reach 10 = .ok (.if_icmp .ge 12, 3) := by decide +kernel
theorem dX2_reach_13 : decode cX2_reach 13 = .ok (.aload_n 0, 1) := by decide +kernel
theorem dX2_reach_14 : decode cX2_reach 14 = .ok (.getfield 21, 3) := by decide +kernel
theorem dX2_reach_17 : decode cX2_reach 17 = .ok (.iload_n 1, 1) := by decide +kernel
theorem dX2_reach_18 : decode cX2_reach 18 = .ok (.baload, 1) := by decide +kernel
theorem dX2_reach_19 : decode cX2_reach 19 = .ok (.ifCond .eq 4, 3) := by decide +kernel
theorem dX2_reach_22 : decode cX2_reach 22 = .ok (.return_, 1) := by decide +kernel
theorem dX2_reach_23 : decode cX2_reach 23 = .ok (.aload_n 0, 1) := by decide +kernel
theorem dX2_reach_24 : decode cX2_reach 24 = .ok (.getfield 60, 3) := by decide +kernel
theorem dX2_reach_27 : decode cX2_reach 27 = .ok (.ifCond .lt 39, 3) := by decide +kernel
theorem dX2_reach_30 : decode cX2_reach 30 = .ok (.aload_n 0, 1) := by decide +kernel
theorem dX2_reach_31 : decode cX2_reach 31 = .ok (.getfield 60, 3) := by decide +kernel
theorem dX2_reach_34 : decode cX2_reach 34 = .ok (.aload_n 0, 1) := by decide +kernel
theorem dX2_reach_35 : decode cX2_reach 35 = .ok (.getfield 11, 3) := by decide +kernel
theorem dX2_reach_38 : decode cX2_reach 38 = .ok (.arraylength, 1) := by decide +kernel
theorem dX2_reach_39 : decode cX2_reach 39 = .ok (.if_icmp .ge 27, 3) := by decide +kernel
theorem dX2_reach_42 : decode cX2_reach 42 = .ok (.aload_n 0, 1) := by decide +kernel
theorem dX2_reach_43 : decode cX2_reach 43 = .ok (.getfield 60, 3) := by decide +kernel
theorem dX2_reach_46 : decode cX2_reach 46 = .ok (.aload_n 0, 1) := by decide +kernel
theorem dX2_reach_47 : decode cX2_reach 47 = .ok (.getfield 15, 3) := by decide +kernel
theorem dX2_reach_50 : decode cX2_reach 50 = .ok (.arraylength, 1) := by decide +kernel
theorem dX2_reach_51 : decode cX2_reach 51 = .ok (.if_icmp .ge 15, 3) := by decide +kernel
theorem dX2_reach_54 : decode cX2_reach 54 = .ok (.aload_n 0, 1) := by decide +kernel
theorem dX2_reach_55 : decode cX2_reach 55 = .ok (.getfield 60, 3) := by decide +kernel
theorem dX2_reach_58 : decode cX2_reach 58 = .ok (.aload_n 0, 1) := by decide +kernel
theorem dX2_reach_59 : decode cX2_reach 59 = .ok (.getfield 18, 3) := by decide +kernel
theorem dX2_reach_62 : decode cX2_reach 62 = .ok (.arraylength, 1) := by decide +kernel
theorem dX2_reach_63 : decode cX2_reach 63 = .ok (.if_icmp .lt 4, 3) := by decide +kernel
theorem dX2_reach_66 : decode cX2_reach 66 = .ok (.return_, 1) := by decide +kernel
theorem dX2_reach_67 : decode cX2_reach 67 = .ok (.aload_n 0, 1) := by decide +kernel
theorem dX2_reach_68 : decode cX2_reach 68 = .ok (.getfield 21, 3) := by decide +kernel
theorem dX2_reach_71 : decode cX2_reach 71 = .ok (.iload_n 1, 1) := by decide +kernel
theorem dX2_reach_72 : decode cX2_reach 72 = .ok (.iconst 1, 1) := by decide +kernel
theorem dX2_reach_73 : decode cX2_reach 73 = .ok (.bastore, 1) := by decide +kernel
theorem dX2_reach_74 : decode cX2_reach 74 = .ok (.aload_n 0, 1) := by decide +kernel
theorem dX2_reach_75 : decode cX2_reach 75 = .ok (.getfield 11, 3) := by decide +kernel
theorem dX2_reach_78 : decode cX2_reach 78 = .ok (.aload_n 0, 1) := by decide +kernel
theorem dX2_reach_79 : decode cX2_reach 79 = .ok (.getfield 60, 3) := by decide +kernel
theorem dX2_reach_82 : decode cX2_reach 82 = .ok (.iload_n 1, 1) := by decide +kernel
theorem dX2_reach_83 : decode cX2_reach 83 = .ok (.iastore, 1) := by decide +kernel
theorem dX2_reach_84 : decode cX2_reach 84 = .ok (.aload_n 0, 1) := by decide +kernel
theorem dX2_reach_85 : decode cX2_reach 85 = .ok (.getfield 15, 3) := by decide +kernel
theorem dX2_reach_88 : decode cX2_reach 88 = .ok (.aload_n 0, 1) := by decide +kernel
theorem dX2_reach_89 : decode cX2_reach 89 = .ok (.getfield 60, 3) := by decide +kernel
theorem dX2_reach_92 : decode cX2_reach 92 = .ok (.iload_n 2, 1) := by decide +kernel
theorem dX2_reach_93 : decode cX2_reach 93 = .ok (.iastore, 1) := by decide +kernel
theorem dX2_reach_94 : decode cX2_reach 94 = .ok (.aload_n 0, 1) := by decide +kernel
theorem dX2_reach_95 : decode cX2_reach 95 = .ok (.getfield 18, 3) := by decide +kernel
theorem dX2_reach_98 : decode cX2_reach 98 = .ok (.aload_n 0, 1) := by decide +kernel
theorem dX2_reach_99 : decode cX2_reach 99 = .ok (.getfield 60, 3) := by decide +kernel
theorem dX2_reach_102 : decode cX2_reach 102 = .ok (.iload_n 3, 1) := by decide +kernel
theorem dX2_reach_103 : decode cX2_reach 103 = .ok (.iastore, 1) := by decide +kernel
theorem dX2_reach_104 : decode cX2_reach 104 = .ok (.aload_n 0, 1) := by decide +kernel
theorem dX2_reach_105 : decode cX2_reach 105 = .ok (.dup, 1) := by decide +kernel
theorem dX2_reach_106 : decode cX2_reach 106 = .ok (.getfield 60, 3) := by decide +kernel
theorem dX2_reach_109 : decode cX2_reach 109 = .ok (.iconst 1, 1) := by decide +kernel
theorem dX2_reach_110 : decode cX2_reach 110 = .ok (.iadd, 1) := by decide +kernel
theorem dX2_reach_111 : decode cX2_reach 111 = .ok (.putfield 60, 3) := by decide +kernel
theorem dX2_reach_114 : decode cX2_reach 114 = .ok (.return_, 1) := by decide +kernel
theorem dX2_reachedAt_0 : decode cX2_reachedAt 0 = .ok (.iload_n 1, 1) := by decide +kernel
theorem dX2_reachedAt_1 : decode cX2_reachedAt 1 = .ok (.ifCond .lt 21, 3) := by decide +kernel
theorem dX2_reachedAt_4 : decode cX2_reachedAt 4 = .ok (.iload_n 1, 1) := by decide +kernel
theorem dX2_reachedAt_5 : decode cX2_reachedAt 5 = .ok (.aload_n 0, 1) := by decide +kernel
theorem dX2_reachedAt_6 : decode cX2_reachedAt 6 = .ok (.getfield 11, 3) := by decide +kernel
theorem dX2_reachedAt_9 : decode cX2_reachedAt 9 = .ok (.arraylength, 1) := by decide +kernel
theorem dX2_reachedAt_10 : decode cX2_reachedAt 10 = .ok (.if_icmp .ge 12, 3) := by decide +kernel
theorem dX2_reachedAt_13 : decode cX2_reachedAt 13 = .ok (.aload_n 0, 1) := by decide +kernel
theorem dX2_reachedAt_14 : decode cX2_reachedAt 14 = .ok (.getfield 11, 3) := by decide +kernel
theorem dX2_reachedAt_17 : decode cX2_reachedAt 17 = .ok (.iload_n 1, 1) := by decide +kernel
theorem dX2_reachedAt_18 : decode cX2_reachedAt 18 = .ok (.iaload, 1) := by decide +kernel
theorem dX2_reachedAt_19 : decode cX2_reachedAt 19 = .ok (.goto 4, 3) := by decide +kernel
theorem dX2_reachedAt_22 : decode cX2_reachedAt 22 = .ok (.iconst 0, 1) := by decide +kernel
theorem dX2_reachedAt_23 : decode cX2_reachedAt 23 = .ok (.ireturn, 1) := by decide +kernel
theorem dX2_stepsAt_0 : decode cX2_stepsAt 0 = .ok (.iload_n 1, 1) := by decide +kernel
theorem dX2_stepsAt_1 : decode cX2_stepsAt 1 = .ok (.ifCond .lt 21, 3) := by decide +kernel
theorem dX2_stepsAt_4 : decode cX2_stepsAt 4 = .ok (.iload_n 1, 1) := by decide +kernel
theorem dX2_stepsAt_5 : decode cX2_stepsAt 5 = .ok (.aload_n 0, 1) := by decide +kernel
theorem dX2_stepsAt_6 : decode cX2_stepsAt 6 = .ok (.getfield 15, 3) := by decide +kernel
theorem dX2_stepsAt_9 : decode cX2_stepsAt 9 = .ok (.arraylength, 1) := by decide +kernel
theorem dX2_stepsAt_10 : decode cX2_stepsAt 10 = .ok (.if_icmp .ge 12, 3) := by decide +kernel
theorem dX2_stepsAt_13 : decode cX2_stepsAt 13 = .ok (.aload_n 0, 1) := by decide +kernel
theorem dX2_stepsAt_14 : decode cX2_stepsAt 14 = .ok (.getfield 15, 3) := by decide +kernel
theorem dX2_stepsAt_17 : decode cX2_stepsAt 17 = .ok (.iload_n 1, 1) := by decide +kernel
theorem dX2_stepsAt_18 : decode cX2_stepsAt 18 = .ok (.iaload, 1) := by decide +kernel
theorem dX2_stepsAt_19 : decode cX2_stepsAt 19 = .ok (.goto 4, 3) := by decide +kernel
theorem dX2_stepsAt_22 : decode cX2_stepsAt 22 = .ok (.iconst (-1), 1) := by decide +kernel
theorem dX2_stepsAt_23 : decode cX2_stepsAt 23 = .ok (.ireturn, 1) := by decide +kernel
theorem dX2_firstAt_0 : decode cX2_firstAt 0 = .ok (.iload_n 1, 1) := by decide +kernel
theorem dX2_firstAt_1 : decode cX2_firstAt 1 = .ok (.ifCond .lt 21, 3) := by decide +kernel
theorem dX2_firstAt_4 : decode cX2_firstAt 4 = .ok (.iload_n 1, 1) := by decide +kernel
theorem dX2_firstAt_5 : decode cX2_firstAt 5 = .ok (.aload_n 0, 1) := by decide +kernel
theorem dX2_firstAt_6 : decode cX2_firstAt 6 = .ok (.getfield 18, 3) := by decide +kernel
theorem dX2_firstAt_9 : decode cX2_firstAt 9 = .ok (.arraylength, 1) := by decide +kernel
theorem dX2_firstAt_10 : decode cX2_firstAt 10 = .ok (.if_icmp .ge 12, 3) := by decide +kernel
theorem dX2_firstAt_13 : decode cX2_firstAt 13 = .ok (.aload_n 0, 1) := by decide +kernel
theorem dX2_firstAt_14 : decode cX2_firstAt 14 = .ok (.getfield 18, 3) := by decide +kernel
theorem dX2_firstAt_17 : decode cX2_firstAt 17 = .ok (.iload_n 1, 1) := by decide +kernel
theorem dX2_firstAt_18 : decode cX2_firstAt 18 = .ok (.iaload, 1) := by decide +kernel
theorem dX2_firstAt_19 : decode cX2_firstAt 19 = .ok (.goto 4, 3) := by decide +kernel
theorem dX2_firstAt_22 : decode cX2_firstAt 22 = .ok (.iconst (-1), 1) := by decide +kernel
theorem dX2_firstAt_23 : decode cX2_firstAt 23 = .ok (.ireturn, 1) := by decide +kernel
theorem dX2_total_0 : decode cX2_total 0 = .ok (.aload_n 0, 1) := by decide +kernel
theorem dX2_total_1 : decode cX2_total 1 = .ok (.getfield 60, 3) := by decide +kernel
theorem dX2_total_4 : decode cX2_total 4 = .ok (.ireturn, 1) := by decide +kernel
theorem dX2_numberAt_0 : decode cX2_numberAt 0 = .ok (.iconst 0, 1) := by decide +kernel
theorem dX2_numberAt_1 : decode cX2_numberAt 1 = .ok (.istore_n 2, 1) := by decide +kernel
theorem dX2_numberAt_2 : decode cX2_numberAt 2 = .ok (.iconst 0, 1) := by decide +kernel
theorem dX2_numberAt_3 : decode cX2_numberAt 3 = .ok (.istore_n 3, 1) := by decide +kernel
theorem dX2_numberAt_4 : decode cX2_numberAt 4 = .ok (.iload_n 3, 1) := by decide +kernel
theorem dX2_numberAt_5 : decode cX2_numberAt 5 = .ok (.aload_n 0, 1) := by decide +kernel
theorem dX2_numberAt_6 : decode cX2_numberAt 6 = .ok (.getfield 21, 3) := by decide +kernel
theorem dX2_numberAt_9 : decode cX2_numberAt 9 = .ok (.arraylength, 1) := by decide +kernel
theorem dX2_numberAt_10 : decode cX2_numberAt 10 = .ok (.if_icmp .ge 28, 3) := by decide +kernel
theorem dX2_numberAt_13 : decode cX2_numberAt 13 = .ok (.aload_n 0, 1) := by decide +kernel
theorem dX2_numberAt_14 : decode cX2_numberAt 14 = .ok (.getfield 21, 3) := by decide +kernel
theorem dX2_numberAt_17 : decode cX2_numberAt 17 = .ok (.iload_n 3, 1) := by decide +kernel
theorem dX2_numberAt_18 : decode cX2_numberAt 18 = .ok (.baload, 1) := by decide +kernel
theorem dX2_numberAt_19 : decode cX2_numberAt 19 = .ok (.ifCond .eq 13, 3) := by decide +kernel
theorem dX2_numberAt_22 : decode cX2_numberAt 22 = .ok (.iload_n 2, 1) := by decide +kernel
theorem dX2_numberAt_23 : decode cX2_numberAt 23 = .ok (.iload_n 1, 1) := by decide +kernel
theorem dX2_numberAt_24 : decode cX2_numberAt 24 = .ok (.if_icmp .ne 5, 3) := by decide +kernel
theorem dX2_numberAt_27 : decode cX2_numberAt 27 = .ok (.iload_n 3, 1) := by decide +kernel
theorem dX2_numberAt_28 : decode cX2_numberAt 28 = .ok (.ireturn, 1) := by decide +kernel
theorem dX2_numberAt_29 : decode cX2_numberAt 29 = .ok (.iinc 2 1, 3) := by decide +kernel
theorem dX2_numberAt_32 : decode cX2_numberAt 32 = .ok (.iinc 3 1, 3) := by decide +kernel
theorem dX2_numberAt_35 : decode cX2_numberAt 35 = .ok (.goto (-31), 3) := by decide +kernel
theorem dX2_numberAt_38 : decode cX2_numberAt 38 = .ok (.iconst (-1), 1) := by decide +kernel
theorem dX2_numberAt_39 : decode cX2_numberAt 39 = .ok (.ireturn, 1) := by decide +kernel
set_option maxRecDepth 20000 in
theorem ggX2_placeWhereOut_X1_become : GoodIn wsX2_placeWhereOut wsX1_become := goodIn_r _ [8, 9, 25, 26] (by decide +kernel) (by decide +kernel)
set_option maxRecDepth 20000 in
theorem gX2_placeWhereOut_X1_become : GoodIn wsX2_placeWhereOut (wsV RX2 74 RX1 yX1_become wsX1_become) := goodIn_app (goodIn_of _ (by decide +kernel)) ggX2_placeWhereOut_X1_become
set_option maxRecDepth 20000 in
theorem ggX2_placeWhereOut_X1_areOutside : GoodIn wsX2_placeWhereOut wsX1_areOutside := goodIn_r _ [13, 9, 25, 26] (by decide +kernel) (by decide +kernel)
set_option maxRecDepth 20000 in
theorem gX2_placeWhereOut_X1_areOutside : GoodIn wsX2_placeWhereOut (wsV RX2 94 RX1 yX1_areOutside wsX1_areOutside) := goodIn_app (goodIn_of _ (by decide +kernel)) ggX2_placeWhereOut_X1_areOutside
theorem dX2_placeWhereOut_0 : decode cX2_placeWhereOut 0 = .ok (.iconst 0, 1) := by decide +kernel
theorem dX2_placeWhereOut_1 : decode cX2_placeWhereOut 1 = .ok (.istore_n 2, 1) := by decide +kernel
theorem dX2_placeWhereOut_2 : decode cX2_placeWhereOut 2 = .ok (.iload_n 2, 1) := by decide +kernel
theorem dX2_placeWhereOut_3 : decode cX2_placeWhereOut 3 = .ok (.aload_n 0, 1) := by decide +kernel
theorem dX2_placeWhereOut_4 : decode cX2_placeWhereOut 4 = .ok (.getfield 60, 3) := by decide +kernel
theorem dX2_placeWhereOut_7 : decode cX2_placeWhereOut 7 = .ok (.if_icmp .ge 44, 3) := by decide +kernel
theorem dX2_placeWhereOut_10 : decode cX2_placeWhereOut 10 = .ok (.iload_n 2, 1) := by decide +kernel
theorem dX2_placeWhereOut_11 : decode cX2_placeWhereOut 11 = .ok (.aload_n 0, 1) := by decide +kernel
theorem dX2_placeWhereOut_12 : decode cX2_placeWhereOut 12 = .ok (.getfield 11, 3) := by decide +kernel
theorem dX2_placeWhereOut_15 : decode cX2_placeWhereOut 15 = .ok (.arraylength, 1) := by decide +kernel
theorem dX2_placeWhereOut_16 : decode cX2_placeWhereOut 16 = .ok (.if_icmp .ge 35, 3) := by decide +kernel
theorem dX2_placeWhereOut_19 : decode cX2_placeWhereOut 19 = .ok (.aload_n 0, 1) := by decide +kernel
theorem dX2_placeWhereOut_20 : decode cX2_placeWhereOut 20 = .ok (.getfield 44, 3) := by decide +kernel
theorem dX2_placeWhereOut_23 : decode cX2_placeWhereOut 23 = .ok (.aload_n 0, 1) := by decide +kernel
theorem dX2_placeWhereOut_24 : decode cX2_placeWhereOut 24 = .ok (.getfield 11, 3) := by decide +kernel
theorem dX2_placeWhereOut_27 : decode cX2_placeWhereOut 27 = .ok (.iload_n 2, 1) := by decide +kernel
theorem dX2_placeWhereOut_28 : decode cX2_placeWhereOut 28 = .ok (.iaload, 1) := by decide +kernel
theorem dX2_placeWhereOut_29 : decode cX2_placeWhereOut 29 = .ok (.invokevirtual 74, 3) := by decide +kernel
theorem dX2_placeWhereOut_32 : decode cX2_placeWhereOut 32 = .ok (.aload_n 0, 1) := by decide +kernel
theorem dX2_placeWhereOut_33 : decode cX2_placeWhereOut 33 = .ok (.getfield 44, 3) := by decide +kernel
theorem dX2_placeWhereOut_36 : decode cX2_placeWhereOut 36 = .ok (.iload_n 1, 1) := by decide +kernel
theorem dX2_placeWhereOut_37 : decode cX2_placeWhereOut 37 = .ok (.invokevirtual 94, 3) := by decide +kernel
theorem dX2_placeWhereOut_40 : decode cX2_placeWhereOut 40 = .ok (.ifCond .eq 5, 3) := by decide +kernel
theorem dX2_placeWhereOut_43 : decode cX2_placeWhereOut 43 = .ok (.iload_n 2, 1) := by decide +kernel
theorem dX2_placeWhereOut_44 : decode cX2_placeWhereOut 44 = .ok (.ireturn, 1) := by decide +kernel
theorem dX2_placeWhereOut_45 : decode cX2_placeWhereOut 45 = .ok (.iinc 2 1, 3) := by decide +kernel
theorem dX2_placeWhereOut_48 : decode cX2_placeWhereOut 48 = .ok (.goto (-46), 3) := by decide +kernel
theorem dX2_placeWhereOut_51 : decode cX2_placeWhereOut 51 = .ok (.iconst (-1), 1) := by decide +kernel
theorem dX2_placeWhereOut_52 : decode cX2_placeWhereOut 52 = .ok (.ireturn, 1) := by decide +kernel
set_option maxRecDepth 20000 in
theorem ggX2_placeWhereTogether_X1_become : GoodIn wsX2_placeWhereTogether wsX1_become := goodIn_r _ [8, 9, 25, 26] (by decide +kernel) (by decide +kernel)
set_option maxRecDepth 20000 in
theorem gX2_placeWhereTogether_X1_become : GoodIn wsX2_placeWhereTogether (wsV RX2 74 RX1 yX1_become wsX1_become) := goodIn_app (goodIn_of _ (by decide +kernel)) ggX2_placeWhereTogether_X1_become
set_option maxRecDepth 20000 in
theorem ggX2_placeWhereTogether_X1_holder : GoodIn wsX2_placeWhereTogether wsX1_holder := goodIn_r _ [13, 9, 25, 26] (by decide +kernel) (by decide +kernel)
set_option maxRecDepth 20000 in
theorem gX2_placeWhereTogether_X1_holder : GoodIn wsX2_placeWhereTogether (wsV RX2 97 RX1 yX1_holder wsX1_holder) := goodIn_app (goodIn_of _ (by decide +kernel)) ggX2_placeWhereTogether_X1_holder
theorem dX2_placeWhereTogether_0 : decode cX2_placeWhereTogether 0 = .ok (.iconst 0, 1) := by decide +kernel
theorem dX2_placeWhereTogether_1 : decode cX2_placeWhereTogether 1 = .ok (.istore_n 3, 1) := by decide +kernel
theorem dX2_placeWhereTogether_2 : decode cX2_placeWhereTogether 2 = .ok (.iload_n 3, 1) := by decide +kernel
theorem dX2_placeWhereTogether_3 : decode cX2_placeWhereTogether 3 = .ok (.aload_n 0, 1) := by decide +kernel
theorem dX2_placeWhereTogether_4 : decode cX2_placeWhereTogether 4 = .ok (.getfield 60, 3) := by decide +kernel
theorem dX2_placeWhereTogether_7 : decode cX2_placeWhereTogether 7 = .ok (.if_icmp .ge 52, 3) := by decide +kernel
theorem dX2_placeWhereTogether_10 : decode cX2_placeWhereTogether 10 = .ok (.iload_n 3, 1) := by decide +kernel
theorem dX2_placeWhereTogether_11 : decode cX2_placeWhereTogether 11 = .ok (.aload_n 0, 1) := by decide +kernel
theorem dX2_placeWhereTogether_12 : decode cX2_placeWhereTogether 12 = .ok (.getfield 11, 3) := by decide +kernel
theorem dX2_placeWhereTogether_15 : decode cX2_placeWhereTogether 15 = .ok (.arraylength, 1) := by decide +kernel
theorem dX2_placeWhereTogether_16 : decode cX2_placeWhereTogether 16 = .ok (.if_icmp .ge 43, 3) := by decide +kernel
theorem dX2_placeWhereTogether_19 : decode cX2_placeWhereTogether 19 = .ok (.aload_n 0, 1) := by decide +kernel
theorem dX2_placeWhereTogether_20 : decode cX2_placeWhereTogether 20 = .ok (.getfield 44, 3) := by decide +kernel
theorem dX2_placeWhereTogether_23 : decode cX2_placeWhereTogether 23 = .ok (.aload_n 0, 1) := by decide +kernel
theorem dX2_placeWhereTogether_24 : decode cX2_placeWhereTogether 24 = .ok (.getfield 11, 3) := by decide +kernel
theorem dX2_placeWhereTogether_27 : decode cX2_placeWhereTogether 27 = .ok (.iload_n 3, 1) := by decide +kernel
theorem dX2_placeWhereTogether_28 : decode cX2_placeWhereTogether 28 = .ok (.iaload, 1) := by decide +kernel
theorem dX2_placeWhereTogether_29 : decode cX2_placeWhereTogether 29 = .ok (.invokevirtual 74, 3) := by decide +kernel
theorem dX2_placeWhereTogether_32 : decode cX2_placeWhereTogether 32 = .ok (.aload_n 0, 1) := by decide +kernel
theorem dX2_placeWhereTogether_33 : decode cX2_placeWhereTogether 33 = .ok (.getfield 44, 3) := by decide +kernel
theorem dX2_placeWhereTogether_36 : decode cX2_placeWhereTogether 36 = .ok (.iload_n 1, 1) := by decide +kernel
theorem dX2_placeWhereTogether_37 : decode cX2_placeWhereTogether 37 = .ok (.invokevirtual 97, 3) := by decide +kernel
theorem dX2_placeWhereTogether_40 : decode cX2_placeWhereTogether 40 = .ok (.aload_n 0, 1) := by decide +kernel
theorem dX2_placeWhereTogether_41 : decode cX2_placeWhereTogether 41 = .ok (.getfield 44, 3) := by decide +kernel
theorem dX2_placeWhereTogether_44 : decode cX2_placeWhereTogether 44 = .ok (.iload_n 2, 1) := by decide +kernel
theorem dX2_placeWhereTogether_45 : decode cX2_placeWhereTogether 45 = .ok (.invokevirtual 97, 3) := by decide +kernel
theorem dX2_placeWhereTogether_48 : decode cX2_placeWhereTogether 48 = .ok (.if_icmp .ne 5, 3) := by decide +kernel
theorem dX2_placeWhereTogether_51 : decode cX2_placeWhereTogether 51 = .ok (.iload_n 3, 1) := by decide +kernel
theorem dX2_placeWhereTogether_52 : decode cX2_placeWhereTogether 52 = .ok (.ireturn, 1) := by decide +kernel
theorem dX2_placeWhereTogether_53 : decode cX2_placeWhereTogether 53 = .ok (.iinc 3 1, 3) := by decide +kernel
theorem dX2_placeWhereTogether_56 : decode cX2_placeWhereTogether 56 = .ok (.goto (-54), 3) := by decide +kernel
theorem dX2_placeWhereTogether_59 : decode cX2_placeWhereTogether 59 = .ok (.iconst (-1), 1) := by decide +kernel
theorem dX2_placeWhereTogether_60 : decode cX2_placeWhereTogether 60 = .ok (.ireturn, 1) := by decide +kernel
set_option maxRecDepth 20000 in
theorem ggX2_mostWalls_X1_become : GoodIn wsX2_mostWalls wsX1_become := goodIn_r _ [12, 13, 33, 34] (by decide +kernel) (by decide +kernel)
set_option maxRecDepth 20000 in
theorem gX2_mostWalls_X1_become : GoodIn wsX2_mostWalls (wsV RX2 74 RX1 yX1_become wsX1_become) := goodIn_app (goodIn_of _ (by decide +kernel)) ggX2_mostWalls_X1_become
set_option maxRecDepth 20000 in
theorem ggX2_mostWalls_X1_walls : GoodIn wsX2_mostWalls wsX1_walls := goodIn_r _ [17, 18, 19, 20, 11, 21, 13, 33, 34] (by decide +kernel) (by decide +kernel)
set_option maxRecDepth 20000 in
theorem gX2_mostWalls_X1_walls : GoodIn wsX2_mostWalls (wsV RX2 100 RX1 yX1_walls wsX1_walls) := goodIn_app (goodIn_of _ (by decide +kernel)) ggX2_mostWalls_X1_walls
theorem dX2_mostWalls_0 : decode cX2_mostWalls 0 = .ok (.iconst 0, 1) := by decide +kernel
theorem dX2_mostWalls_1 : decode cX2_mostWalls 1 = .ok (.istore_n 2, 1) := by decide +kernel
theorem dX2_mostWalls_2 : decode cX2_mostWalls 2 = .ok (.iconst 0, 1) := by decide +kernel
theorem dX2_mostWalls_3 : decode cX2_mostWalls 3 = .ok (.istore_n 3, 1) := by decide +kernel
theorem dX2_mostWalls_4 : decode cX2_mostWalls 4 = .ok (.iload_n 3, 1) := by decide +kernel
theorem dX2_mostWalls_5 : decode cX2_mostWalls 5 = .ok (.aload_n 0, 1) := by decide +kernel
theorem dX2_mostWalls_6 : decode cX2_mostWalls 6 = .ok (.getfield 60, 3) := by decide +kernel
theorem dX2_mostWalls_9 : decode cX2_mostWalls 9 = .ok (.if_icmp .ge 44, 3) := by decide +kernel
theorem dX2_mostWalls_12 : decode cX2_mostWalls 12 = .ok (.iload_n 3, 1) := by decide +kernel
theorem dX2_mostWalls_13 : decode cX2_mostWalls 13 = .ok (.aload_n 0, 1) := by decide +kernel
theorem dX2_mostWalls_14 : decode cX2_mostWalls 14 = .ok (.getfield 11, 3) := by decide +kernel
theorem dX2_mostWalls_17 : decode cX2_mostWalls 17 = .ok (.arraylength, 1) := by decide +kernel
theorem dX2_mostWalls_18 : decode cX2_mostWalls 18 = .ok (.if_icmp .ge 35, 3) := by decide +kernel
theorem dX2_mostWalls_21 : decode cX2_mostWalls 21 = .ok (.aload_n 0, 1) := by decide +kernel
theorem dX2_mostWalls_22 : decode cX2_mostWalls 22 = .ok (.getfield 44, 3) := by decide +kernel
theorem dX2_mostWalls_25 : decode cX2_mostWalls 25 = .ok (.aload_n 0, 1) := by decide +kernel
theorem dX2_mostWalls_26 : decode cX2_mostWalls 26 = .ok (.getfield 11, 3) := by decide +kernel
theorem dX2_mostWalls_29 : decode cX2_mostWalls 29 = .ok (.iload_n 3, 1) := by decide +kernel
theorem dX2_mostWalls_30 : decode cX2_mostWalls 30 = .ok (.iaload, 1) := by decide +kernel
theorem dX2_mostWalls_31 : decode cX2_mostWalls 31 = .ok (.invokevirtual 74, 3) := by decide +kernel
theorem dX2_mostWalls_34 : decode cX2_mostWalls 34 = .ok (.iload_n 2, 1) := by decide +kernel
theorem dX2_mostWalls_35 : decode cX2_mostWalls 35 = .ok (.aload_n 0, 1) := by decide +kernel
theorem dX2_mostWalls_36 : decode cX2_mostWalls 36 = .ok (.getfield 44, 3) := by decide +kernel
theorem dX2_mostWalls_39 : decode cX2_mostWalls 39 = .ok (.iload_n 1, 1) := by decide +kernel
theorem dX2_mostWalls_40 : decode cX2_mostWalls 40 = .ok (.invokevirtual 100, 3) := by decide +kernel
theorem dX2_mostWalls_43 : decode cX2_mostWalls 43 = .ok (.invokestatic 103, 3) := by decide +kernel
theorem dX2_mostWalls_46 : decode cX2_mostWalls 46 = .ok (.istore_n 2, 1) := by decide +kernel
theorem dX2_mostWalls_47 : decode cX2_mostWalls 47 = .ok (.iinc 3 1, 3) := by decide +kernel
theorem dX2_mostWalls_50 : decode cX2_mostWalls 50 = .ok (.goto (-46), 3) := by decide +kernel
theorem dX2_mostWalls_53 : decode cX2_mostWalls 53 = .ok (.iload_n 2, 1) := by decide +kernel
theorem dX2_mostWalls_54 : decode cX2_mostWalls 54 = .ok (.ireturn, 1) := by decide +kernel
set_option maxRecDepth 20000 in
theorem ggX2_fitting_X1_become : GoodIn wsX2_fitting wsX1_become := goodIn_r _ [8, 9, 48, 49] (by decide +kernel) (by decide +kernel)
set_option maxRecDepth 20000 in
theorem gX2_fitting_X1_become : GoodIn wsX2_fitting (wsV RX2 74 RX1 yX1_become wsX1_become) := goodIn_app (goodIn_of _ (by decide +kernel)) ggX2_fitting_X1_become
set_option maxRecDepth 20000 in
theorem ggX2_fitting_X4_isSoIn : GoodIn wsX2_fitting wsX4_isSoIn := goodIn_r _ [14, 15, 16, 17, 18, 19, 20, 7, 21, 22, 23, 24, 25, 26, 27, 28, 29, 30, 31, 32, 33, 34, 35, 36, 9, 50, 51, 52, 48, 49, 53, 54] (by decide +kernel) (by decide +kernel)
set_option maxRecDepth 20000 in
theorem gX2_fitting_X4_isSoIn : GoodIn wsX2_fitting (wsV RX2 109 RX4 yX4_isSoIn wsX4_isSoIn) := goodIn_app (goodIn_of _ (by decide +kernel)) ggX2_fitting_X4_isSoIn
theorem dX2_fitting_0 : decode cX2_fitting 0 = .ok (.iconst 0, 1) := by decide +kernel
theorem dX2_fitting_1 : decode cX2_fitting 1 = .ok (.istore_n 2, 1) := by decide +kernel
theorem dX2_fitting_2 : decode cX2_fitting 2 = .ok (.iconst 0, 1) := by decide +kernel
theorem dX2_fitting_3 : decode cX2_fitting 3 = .ok (.istore_n 3, 1) := by decide +kernel
theorem dX2_fitting_4 : decode cX2_fitting 4 = .ok (.iload_n 3, 1) := by decide +kernel
theorem dX2_fitting_5 : decode cX2_fitting 5 = .ok (.aload_n 0, 1) := by decide +kernel
theorem dX2_fitting_6 : decode cX2_fitting 6 = .ok (.getfield 60, 3) := by decide +kernel
theorem dX2_fitting_9 : decode cX2_fitting 9 = .ok (.if_icmp .ge 45, 3) := by decide +kernel
theorem dX2_fitting_12 : decode cX2_fitting 12 = .ok (.iload_n 3, 1) := by decide +kernel
theorem dX2_fitting_13 : decode cX2_fitting 13 = .ok (.aload_n 0, 1) := by decide +kernel
theorem dX2_fitting_14 : decode cX2_fitting 14 = .ok (.getfield 11, 3) := by decide +kernel
theorem dX2_fitting_17 : decode cX2_fitting 17 = .ok (.arraylength, 1) := by decide +kernel
theorem dX2_fitting_18 : decode cX2_fitting 18 = .ok (.if_icmp .ge 36, 3) := by decide +kernel
theorem dX2_fitting_21 : decode cX2_fitting 21 = .ok (.aload_n 0, 1) := by decide +kernel
theorem dX2_fitting_22 : decode cX2_fitting 22 = .ok (.getfield 44, 3) := by decide +kernel
theorem dX2_fitting_25 : decode cX2_fitting 25 = .ok (.aload_n 0, 1) := by decide +kernel
theorem dX2_fitting_26 : decode cX2_fitting 26 = .ok (.getfield 11, 3) := by decide +kernel
theorem dX2_fitting_29 : decode cX2_fitting 29 = .ok (.iload_n 3, 1) := by decide +kernel
theorem dX2_fitting_30 : decode cX2_fitting 30 = .ok (.iaload, 1) := by decide +kernel
theorem dX2_fitting_31 : decode cX2_fitting 31 = .ok (.invokevirtual 74, 3) := by decide +kernel
theorem dX2_fitting_34 : decode cX2_fitting 34 = .ok (.aload_n 1, 1) := by decide +kernel
theorem dX2_fitting_35 : decode cX2_fitting 35 = .ok (.aload_n 0, 1) := by decide +kernel
theorem dX2_fitting_36 : decode cX2_fitting 36 = .ok (.getfield 44, 3) := by decide +kernel
theorem dX2_fitting_39 : decode cX2_fitting 39 = .ok (.invokevirtual 109, 3) := by decide +kernel
theorem dX2_fitting_42 : decode cX2_fitting 42 = .ok (.ifCond .eq 6, 3) := by decide +kernel
theorem dX2_fitting_45 : decode cX2_fitting 45 = .ok (.iinc 2 1, 3) := by decide +kernel
theorem dX2_fitting_48 : decode cX2_fitting 48 = .ok (.iinc 3 1, 3) := by decide +kernel
theorem dX2_fitting_51 : decode cX2_fitting 51 = .ok (.goto (-47), 3) := by decide +kernel
theorem dX2_fitting_54 : decode cX2_fitting 54 = .ok (.iload_n 2, 1) := by decide +kernel
theorem dX2_fitting_55 : decode cX2_fitting 55 = .ok (.ireturn, 1) := by decide +kernel
set_option maxRecDepth 20000 in
theorem ggX2_sureHolder_X1_become : GoodIn wsX2_sureHolder wsX1_become := goodIn_r _ [8, 9, 49, 50] (by decide +kernel) (by decide +kernel)
set_option maxRecDepth 20000 in
theorem gX2_sureHolder_X1_become : GoodIn wsX2_sureHolder (wsV RX2 74 RX1 yX1_become wsX1_become) := goodIn_app (goodIn_of _ (by decide +kernel)) ggX2_sureHolder_X1_become
set_option maxRecDepth 20000 in
theorem ggX2_sureHolder_X4_isSoIn : GoodIn wsX2_sureHolder wsX4_isSoIn := goodIn_r _ [14, 15, 16, 17, 18, 19, 20, 7, 21, 22, 23, 24, 25, 26, 27, 28, 29, 30, 31, 32, 33, 34, 35, 36, 9, 51, 52, 53, 49, 50, 54, 55] (by decide +kernel) (by decide +kernel)
set_option maxRecDepth 20000 in
theorem gX2_sureHolder_X4_isSoIn : GoodIn wsX2_sureHolder (wsV RX2 109 RX4 yX4_isSoIn wsX4_isSoIn) := goodIn_app (goodIn_of _ (by decide +kernel)) ggX2_sureHolder_X4_isSoIn
set_option maxRecDepth 20000 in
theorem ggX2_sureHolder_X1_holder : GoodIn wsX2_sureHolder wsX1_holder := goodIn_r _ [36, 9, 49, 50] (by decide +kernel) (by decide +kernel)
set_option maxRecDepth 20000 in
theorem gX2_sureHolder_X1_holder : GoodIn wsX2_sureHolder (wsV RX2 97 RX1 yX1_holder wsX1_holder) := goodIn_app (goodIn_of _ (by decide +kernel)) ggX2_sureHolder_X1_holder
theorem dX2_sureHolder_0 : decode cX2_sureHolder 0 = .ok (.bipush (-2), 2) := by decide +kernel
theorem dX2_sureHolder_2 : decode cX2_sureHolder 2 = .ok (.istore_n 3, 1) := by decide +kernel
theorem dX2_sureHolder_3 : decode cX2_sureHolder 3 = .ok (.iconst 0, 1) := by decide +kernel
theorem dX2_sureHolder_4 : decode cX2_sureHolder 4 = .ok (.istore 4, 2) := by decide +kernel
theorem dX2_sureHolder_6 : decode cX2_sureHolder 6 = .ok (.iload 4, 2) := by decide +kernel
theorem dX2_sureHolder_8 : decode cX2_sureHolder 8 = .ok (.aload_n 0, 1) := by decide +kernel
theorem dX2_sureHolder_9 : decode cX2_sureHolder 9 = .ok (.getfield 60, 3) := by decide +kernel
theorem dX2_sureHolder_12 : decode cX2_sureHolder 12 = .ok (.if_icmp .ge 74, 3) := by decide +kernel
theorem dX2_sureHolder_15 : decode cX2_sureHolder 15 = .ok (.iload 4, 2) := by decide +kernel
theorem dX2_sureHolder_17 : decode cX2_sureHolder 17 = .ok (.aload_n 0, 1) := by decide +kernel
theorem dX2_sureHolder_18 : decode cX2_sureHolder 18 = .ok (.getfield 11, 3) := by decide +kernel
theorem dX2_sureHolder_21 : decode cX2_sureHolder 21 = .ok (.arraylength, 1) := by decide +kernel
theorem dX2_sureHolder_22 : decode cX2_sureHolder 22 = .ok (.if_icmp .ge 64, 3) := by decide +kernel
theorem dX2_sureHolder_25 : decode cX2_sureHolder 25 = .ok (.aload_n 0, 1) := by decide +kernel
theorem dX2_sureHolder_26 : decode cX2_sureHolder 26 = .ok (.getfield 44, 3) := by decide +kernel
theorem dX2_sureHolder_29 : decode cX2_sureHolder 29 = .ok (.aload_n 0, 1) := by decide +kernel
theorem dX2_sureHolder_30 : decode cX2_sureHolder 30 = .ok (.getfield 11, 3) := by decide +kernel
theorem dX2_sureHolder_33 : decode cX2_sureHolder 33 = .ok (.iload 4, 2) := by decide +kernel
theorem dX2_sureHolder_35 : decode cX2_sureHolder 35 = .ok (.iaload, 1) := by decide +kernel
theorem dX2_sureHolder_36 : decode cX2_sureHolder 36 = .ok (.invokevirtual 74, 3) := by decide +kernel
theorem dX2_sureHolder_39 : decode cX2_sureHolder 39 = .ok (.aload_n 2, 1) := by decide +kernel
theorem dX2_sureHolder_40 : decode cX2_sureHolder 40 = .ok (.aload_n 0, 1) := by decide +kernel
theorem dX2_sureHolder_41 : decode cX2_sureHolder 41 = .ok (.getfield 44, 3) := by decide +kernel
theorem dX2_sureHolder_44 : decode cX2_sureHolder 44 = .ok (.invokevirtual 109, 3) := by decide +kernel
theorem dX2_sureHolder_47 : decode cX2_sureHolder 47 = .ok (.ifCond .eq 33, 3) := by decide +kernel
theorem dX2_sureHolder_50 : decode cX2_sureHolder 50 = .ok (.iload_n 3, 1) := by decide +kernel
theorem dX2_sureHolder_51 : decode cX2_sureHolder 51 = .ok (.bipush (-2), 2) := by decide +kernel
theorem dX2_sureHolder_53 : decode cX2_sureHolder 53 = .ok (.if_icmp .eq 18, 3) := by decide +kernel
theorem dX2_sureHolder_56 : decode cX2_sureHolder 56 = .ok (.iload_n 3, 1) := by decide +kernel
theorem dX2_sureHolder_57 : decode cX2_sureHolder 57 = .ok (.aload_n 0, 1) := by decide +kernel
theorem dX2_sureHolder_58 : decode cX2_sureHolder 58 = .ok (.getfield 44, 3) := by decide +kernel
theorem dX2_sureHolder_61 : decode cX2_sureHolder 61 = .ok (.iload_n 1, 1) := by decide +kernel
theorem dX2_sureHolder_62 : decode cX2_sureHolder 62 = .ok (.invokevirtual 97, 3) := by decide +kernel
theorem dX2_sureHolder_65 : decode cX2_sureHolder 65 = .ok (.if_icmp .eq 6, 3) := by decide +kernel
theorem dX2_sureHolder_68 : decode cX2_sureHolder 68 = .ok (.bipush (-2), 2) := by decide +kernel
theorem dX2_sureHolder_70 : decode cX2_sureHolder 70 = .ok (.ireturn, 1) := by decide +kernel
theorem dX2_sureHolder_71 : decode cX2_sureHolder 71 = .ok (.aload_n 0, 1) := by decide +kernel
theorem dX2_sureHolder_72 : decode cX2_sureHolder 72 = .ok (.getfield 44, 3) := by decide +kernel
theorem dX2_sureHolder_75 : decode cX2_sureHolder 75 = .ok (.iload_n 1, 1) := by decide +kernel
theorem dX2_sureHolder_76 : decode cX2_sureHolder 76 = .ok (.invokevirtual 97, 3) := by decide +kernel
theorem dX2_sureHolder_79 : decode cX2_sureHolder 79 = .ok (.istore_n 3, 1) := by decide +kernel
theorem dX2_sureHolder_80 : decode cX2_sureHolder 80 = .ok (.iinc 4 1, 3) := by decide +kernel
theorem dX2_sureHolder_83 : decode cX2_sureHolder 83 = .ok (.goto (-77), 3) := by decide +kernel
theorem dX2_sureHolder_86 : decode cX2_sureHolder 86 = .ok (.iload_n 3, 1) := by decide +kernel
theorem dX2_sureHolder_87 : decode cX2_sureHolder 87 = .ok (.ireturn, 1) := by decide +kernel
set_option maxRecDepth 20000 in
theorem ggX2_bestAsked_X0_total : GoodIn wsX2_bestAsked wsX0_total := goodIn_r _ [6, 7, 65, 66] (by decide +kernel) (by decide +kernel)
set_option maxRecDepth 20000 in
theorem gX2_bestAsked_X0_total : GoodIn wsX2_bestAsked (wsV RX2 55 RX0 yX0_total wsX0_total) := goodIn_app (goodIn_of _ (by decide +kernel)) ggX2_bestAsked_X0_total
set_option maxRecDepth 20000 in
theorem ggX2_bestAsked_X2_mostLeft : GoodIn wsX2_bestAsked wsX2_mostLeft := goodIn_r _ [12, 13, 14, 15, 16, 17, 18, 19, 20, 21, 22, 23, 24, 25, 26, 27, 28, 29, 30, 31, 32, 33, 34, 35, 36, 3, 4, 5, 6, 7, 37, 38, 39, 40, 41, 42, 43, 44, 45, 46, 47, 48, 49, 50, 51, 52, 53, 54, 55, 56, 57, 58, 59, 60, 61, 62, 63, 64, 67, 68, 65, 66, 69, 70, 71] (by decide +kernel) (by decide +kernel)
set_option maxRecDepth 20000 in
theorem gX2_bestAsked_X2_mostLeft : GoodIn wsX2_bestAsked (wsV RX2 115 RX2 yX2_mostLeft wsX2_mostLeft) := goodIn_app (goodIn_of _ (by decide +kernel)) ggX2_bestAsked_X2_mostLeft
theorem dX2_bestAsked_0 : decode cX2_bestAsked 0 = .ok (.iconst (-1), 1) := by decide +kernel
theorem dX2_bestAsked_1 : decode cX2_bestAsked 1 = .ok (.istore_n 2, 1) := by decide +kernel
theorem dX2_bestAsked_2 : decode cX2_bestAsked 2 = .ok (.iconst 0, 1) := by decide +kernel
theorem dX2_bestAsked_3 : decode cX2_bestAsked 3 = .ok (.istore_n 3, 1) := by decide +kernel
theorem dX2_bestAsked_4 : decode cX2_bestAsked 4 = .ok (.iconst 0, 1) := by decide +kernel
theorem dX2_bestAsked_5 : decode cX2_bestAsked 5 = .ok (.istore 4, 2) := by decide +kernel
theorem dX2_bestAsked_7 : decode cX2_bestAsked 7 = .ok (.iload 4, 2) := by decide +kernel
theorem dX2_bestAsked_9 : decode cX2_bestAsked 9 = .ok (.aload_n 0, 1) := by decide +kernel
theorem dX2_bestAsked_10 : decode cX2_bestAsked 10 = .ok (.getfield 35, 3) := by decide +kernel
theorem dX2_bestAsked_13 : decode cX2_bestAsked 13 = .ok (.invokevirtual 55, 3) := by decide +kernel
theorem dX2_bestAsked_16 : decode cX2_bestAsked 16 = .ok (.if_icmp .ge 40, 3) := by decide +kernel
theorem dX2_bestAsked_19 : decode cX2_bestAsked 19 = .ok (.aload_n 0, 1) := by decide +kernel
theorem dX2_bestAsked_20 : decode cX2_bestAsked 20 = .ok (.iload 4, 2) := by decide +kernel
theorem dX2_bestAsked_22 : decode cX2_bestAsked 22 = .ok (.aload_n 1, 1) := by decide +kernel
theorem dX2_bestAsked_23 : decode cX2_bestAsked 23 = .ok (.invokevirtual 115, 3) := by decide +kernel
theorem dX2_bestAsked_26 : decode cX2_bestAsked 26 = .ok (.istore 5, 2) := by decide +kernel
theorem dX2_bestAsked_28 : decode cX2_bestAsked 28 = .ok (.iload 5, 2) := by decide +kernel
theorem dX2_bestAsked_30 : decode cX2_bestAsked 30 = .ok (.ifCond .le 20, 3) := by decide +kernel
theorem dX2_bestAsked_33 : decode cX2_bestAsked 33 = .ok (.iload_n 2, 1) := by decide +kernel
theorem dX2_bestAsked_34 : decode cX2_bestAsked 34 = .ok (.iconst (-1), 1) := by decide +kernel
theorem dX2_bestAsked_35 : decode cX2_bestAsked 35 = .ok (.if_icmp .eq 9, 3) := by decide +kernel
theorem dX2_bestAsked_38 : decode cX2_bestAsked 38 = .ok (.iload 5, 2) := by decide +kernel
theorem dX2_bestAsked_40 : decode cX2_bestAsked 40 = .ok (.iload_n 3, 1) := by decide +kernel
theorem dX2_bestAsked_41 : decode cX2_bestAsked 41 = .ok (.if_icmp .ge 9, 3) := by decide +kernel
theorem dX2_bestAsked_44 : decode cX2_bestAsked 44 = .ok (.iload 4, 2) := by decide +kernel
theorem dX2_bestAsked_46 : decode cX2_bestAsked 46 = .ok (.istore_n 2, 1) := by decide +kernel
theorem dX2_bestAsked_47 : decode cX2_bestAsked 47 = .ok (.iload 5, 2) := by decide +kernel
theorem dX2_bestAsked_49 : decode cX2_bestAsked 49 = .ok (.istore_n 3, 1) := by decide +kernel
theorem dX2_bestAsked_50 : decode cX2_bestAsked 50 = .ok (.iinc 4 1, 3) := by decide +kernel
theorem dX2_bestAsked_53 : decode cX2_bestAsked 53 = .ok (.goto (-46), 3) := by decide +kernel
theorem dX2_bestAsked_56 : decode cX2_bestAsked 56 = .ok (.iload_n 2, 1) := by decide +kernel
theorem dX2_bestAsked_57 : decode cX2_bestAsked 57 = .ok (.ireturn, 1) := by decide +kernel
set_option maxRecDepth 20000 in
theorem ggX2_mostLeft_J7_fill_53178 : GoodIn wsX2_mostLeft wsJ7_fill_53178 := goodIn_r _ [12] (by decide +kernel) (by decide +kernel)
set_option maxRecDepth 20000 in
theorem gX2_mostLeft_J7_fill_53178 : GoodIn wsX2_mostLeft (va_wsS RX2 119 yJ7_fill_53178 wsJ7_fill_53178) := goodIn_app (goodIn_of _ (by decide +kernel)) ggX2_mostLeft_J7_fill_53178
set_option maxRecDepth 20000 in
theorem ggX2_mostLeft_X1_become : GoodIn wsX2_mostLeft wsX1_become := goodIn_r _ [17, 18, 58, 59] (by decide +kernel) (by decide +kernel)
set_option maxRecDepth 20000 in
theorem gX2_mostLeft_X1_become : GoodIn wsX2_mostLeft (wsV RX2 74 RX1 yX1_become wsX1_become) := goodIn_app (goodIn_of _ (by decide +kernel)) ggX2_mostLeft_X1_become
set_option maxRecDepth 20000 in
theorem ggX2_mostLeft_X1_heardBy : GoodIn wsX2_mostLeft wsX1_heardBy := goodIn_r _ [22, 23, 24, 25, 26, 27, 28, 29, 30, 31, 32, 16, 33, 34, 35, 36, 37, 18, 58, 59, 60, 61] (by decide +kernel) (by decide +kernel)
set_option maxRecDepth 20000 in
theorem gX2_mostLeft_X1_heardBy : GoodIn wsX2_mostLeft (wsV RX2 125 RX1 yX1_heardBy wsX1_heardBy) := goodIn_app (goodIn_of _ (by decide +kernel)) ggX2_mostLeft_X1_heardBy
set_option maxRecDepth 20000 in
theorem ggX2_mostLeft_X4_isSoIn : GoodIn wsX2_mostLeft wsX4_isSoIn := goodIn_r _ [42, 43, 44, 45, 46, 20, 21, 16, 22, 23, 24, 25, 26, 27, 28, 29, 30, 31, 32, 33, 34, 35, 36, 37, 18, 62, 63, 64, 58, 59, 60, 61] (by decide +kernel) (by decide +kernel)
set_option maxRecDepth 20000 in
theorem gX2_mostLeft_X4_isSoIn : GoodIn wsX2_mostLeft (wsV RX2 109 RX4 yX4_isSoIn wsX4_isSoIn) := goodIn_app (goodIn_of _ (by decide +kernel)) ggX2_mostLeft_X4_isSoIn
theorem dX2_mostLeft_0 : decode cX2_mostLeft 0 = .ok (.aload_n 0, 1) := by decide +kernel
theorem dX2_mostLeft_1 : decode cX2_mostLeft 1 = .ok (.getfield 25, 3) := by decide +kernel
theorem dX2_mostLeft_4 : decode cX2_mostLeft 4 = .ok (.iconst 0, 1) := by decide +kernel
theorem dX2_mostLeft_5 : decode cX2_mostLeft 5 = .ok (.invokestatic 119, 3) := by decide +kernel
theorem dX2_mostLeft_8 : decode cX2_mostLeft 8 = .ok (.iconst 0, 1) := by decide +kernel
theorem dX2_mostLeft_9 : decode cX2_mostLeft 9 = .ok (.istore_n 3, 1) := by decide +kernel
theorem dX2_mostLeft_10 : decode cX2_mostLeft 10 = .ok (.iconst 0, 1) := by decide +kernel
theorem dX2_mostLeft_11 : decode cX2_mostLeft 11 = .ok (.istore 4, 2) := by decide +kernel
theorem dX2_mostLeft_13 : decode cX2_mostLeft 13 = .ok (.iload 4, 2) := by decide +kernel
theorem dX2_mostLeft_15 : decode cX2_mostLeft 15 = .ok (.aload_n 0, 1) := by decide +kernel
theorem dX2_mostLeft_16 : decode cX2_mostLeft 16 = .ok (.getfield 60, 3) := by decide +kernel
theorem dX2_mostLeft_19 : decode cX2_mostLeft 19 = .ok (.if_icmp .ge 92, 3) := by decide +kernel
theorem dX2_mostLeft_22 : decode cX2_mostLeft 22 = .ok (.iload 4, 2) := by decide +kernel
theorem dX2_mostLeft_24 : decode cX2_mostLeft 24 = .ok (.aload_n 0, 1) := by decide +kernel
theorem dX2_mostLeft_25 : decode cX2_mostLeft 25 = .ok (.getfield 11, 3) := by decide +kernel
theorem dX2_mostLeft_28 : decode cX2_mostLeft 28 = .ok (.arraylength, 1) := by decide +kernel
theorem dX2_mostLeft_29 : decode cX2_mostLeft 29 = .ok (.if_icmp .ge 82, 3) := by decide +kernel
theorem dX2_mostLeft_32 : decode cX2_mostLeft 32 = .ok (.aload_n 0, 1) := by decide +kernel
theorem dX2_mostLeft_33 : decode cX2_mostLeft 33 = .ok (.getfield 44, 3) := by decide +kernel
theorem dX2_mostLeft_36 : decode cX2_mostLeft 36 = .ok (.aload_n 0, 1) := by decide +kernel
theorem dX2_mostLeft_37 : decode cX2_mostLeft 37 = .ok (.getfield 11, 3) := by decide +kernel
theorem dX2_mostLeft_40 : decode cX2_mostLeft 40 = .ok (.iload 4, 2) := by decide +kernel
theorem dX2_mostLeft_42 : decode cX2_mostLeft 42 = .ok (.iaload, 1) := by decide +kernel
theorem dX2_mostLeft_43 : decode cX2_mostLeft 43 = .ok (.invokevirtual 74, 3) := by decide +kernel
theorem dX2_mostLeft_46 : decode cX2_mostLeft 46 = .ok (.aload_n 0, 1) := by decide +kernel
theorem dX2_mostLeft_47 : decode cX2_mostLeft 47 = .ok (.getfield 44, 3) := by decide +kernel
theorem dX2_mostLeft_50 : decode cX2_mostLeft 50 = .ok (.iload_n 1, 1) := by decide +kernel
theorem dX2_mostLeft_51 : decode cX2_mostLeft 51 = .ok (.invokevirtual 125, 3) := by decide +kernel
theorem dX2_mostLeft_54 : decode cX2_mostLeft 54 = .ok (.istore 5, 2) := by decide +kernel
theorem dX2_mostLeft_56 : decode cX2_mostLeft 56 = .ok (.iload 5, 2) := by decide +kernel
theorem dX2_mostLeft_58 : decode cX2_mostLeft 58 = .ok (.ifCond .lt 47, 3) := by decide +kernel
theorem dX2_mostLeft_61 : decode cX2_mostLeft 61 = .ok (.iload 5, 2) := by decide +kernel
theorem dX2_mostLeft_63 : decode cX2_mostLeft 63 = .ok (.aload_n 0, 1) := by decide +kernel
theorem dX2_mostLeft_64 : decode cX2_mostLeft 64 = .ok (.getfield 25, 3) := by decide +kernel
theorem dX2_mostLeft_67 : decode cX2_mostLeft 67 = .ok (.arraylength, 1) := by decide +kernel
theorem dX2_mostLeft_68 : decode cX2_mostLeft 68 = .ok (.if_icmp .ge 37, 3) := by decide +kernel
theorem dX2_mostLeft_71 : decode cX2_mostLeft 71 = .ok (.aload_n 2, 1) := by decide +kernel
theorem dX2_mostLeft_72 : decode cX2_mostLeft 72 = .ok (.aload_n 0, 1) := by decide +kernel
theorem dX2_mostLeft_73 : decode cX2_mostLeft 73 = .ok (.getfield 44, 3) := by decide +kernel
theorem dX2_mostLeft_76 : decode cX2_mostLeft 76 = .ok (.invokevirtual 109, 3) := by decide +kernel
theorem dX2_mostLeft_79 : decode cX2_mostLeft 79 = .ok (.ifCond .eq 26, 3) := by decide +kernel
theorem dX2_mostLeft_82 : decode cX2_mostLeft 82 = .ok (.aload_n 0, 1) := by decide +kernel
theorem dX2_mostLeft_83 : decode cX2_mostLeft 83 = .ok (.getfield 25, 3) := by decide +kernel
theorem dX2_mostLeft_86 : decode cX2_mostLeft 86 = .ok (.iload 5, 2) := by decide +kernel
theorem dX2_mostLeft_88 : decode cX2_mostLeft 88 = .ok (.dup2, 1) := by decide +kernel
theorem dX2_mostLeft_89 : decode cX2_mostLeft 89 = .ok (.iaload, 1) := by decide +kernel
theorem dX2_mostLeft_90 : decode cX2_mostLeft 90 = .ok (.iconst 1, 1) := by decide +kernel
theorem dX2_mostLeft_91 : decode cX2_mostLeft 91 = .ok (.iadd, 1) := by decide +kernel
theorem dX2_mostLeft_92 : decode cX2_mostLeft 92 = .ok (.iastore, 1) := by decide +kernel
theorem dX2_mostLeft_93 : decode cX2_mostLeft 93 = .ok (.iload_n 3, 1) := by decide +kernel
theorem dX2_mostLeft_94 : decode cX2_mostLeft 94 = .ok (.aload_n 0, 1) := by decide +kernel
theorem dX2_mostLeft_95 : decode cX2_mostLeft 95 = .ok (.getfield 25, 3) := by decide +kernel
theorem dX2_mostLeft_98 : decode cX2_mostLeft 98 = .ok (.iload 5, 2) := by decide +kernel
theorem dX2_mostLeft_100 : decode cX2_mostLeft 100 = .ok (.iaload, 1) := by decide +kernel
theorem dX2_mostLeft_101 : decode cX2_mostLeft 101 = .ok (.invokestatic 103, 3) := by decide +kernel
theorem dX2_mostLeft_104 : decode cX2_mostLeft 104 = .ok (.istore_n 3, 1) := by decide +kernel
theorem dX2_mostLeft_105 : decode cX2_mostLeft 105 = .ok (.iinc 4 1, 3) := by decide +kernel
theorem dX2_mostLeft_108 : decode cX2_mostLeft 108 = .ok (.goto (-95), 3) := by decide +kernel
theorem dX2_mostLeft_111 : decode cX2_mostLeft 111 = .ok (.iload_n 3, 1) := by decide +kernel
theorem dX2_mostLeft_112 : decode cX2_mostLeft 112 = .ok (.ireturn, 1) := by decide +kernel
