theorem dX0_init_0 : decode cX0_init 0 = .ok (.aload_n 0, 1) := by decide +kernel
theorem dX0_init_1 : decode cX0_init 1 = .ok (.invokespecial 3, 3) := by decide +kernel
theorem dX0_init_4 : decode cX0_init 4 = .ok (.aload_n 0, 1) := by decide +kernel
theorem dX0_init_5 : decode cX0_init 5 = .ok (.bipush 20, 2) := by decide +kernel
theorem dX0_init_7 : decode cX0_init 7 = .ok (.newarray .int, 2) := by decide +kernel
theorem dX0_init_9 : decode cX0_init 9 = .ok (.putfield 9, 3) := by decide +kernel
theorem dX0_init_12 : decode cX0_init 12 = .ok (.return_, 1) := by decide +kernel
theorem dX0_total_0 : decode cX0_total 0 = .ok (.aload_n 0, 1) := by decide +kernel
theorem dX0_total_1 : decode cX0_total 1 = .ok (.getfield 15, 3) := by decide +kernel
theorem dX0_total_4 : decode cX0_total 4 = .ok (.ireturn, 1) := by decide +kernel
theorem dX0_all_0 : decode cX0_all 0 = .ok (.iconst 1, 1) := by decide +kernel
theorem dX0_all_1 : decode cX0_all 1 = .ok (.aload_n 0, 1) := by decide +kernel
theorem dX0_all_2 : decode cX0_all 2 = .ok (.getfield 15, 3) := by decide +kernel
theorem dX0_all_5 : decode cX0_all 5 = .ok (.ishl, 1) := by decide +kernel
theorem dX0_all_6 : decode cX0_all 6 = .ok (.iconst 1, 1) := by decide +kernel
theorem dX0_all_7 : decode cX0_all 7 = .ok (.isub, 1) := by decide +kernel
theorem dX0_all_8 : decode cX0_all 8 = .ok (.ireturn, 1) := by decide +kernel
theorem dX0_has_0 : decode cX0_has 0 = .ok (.iload_n 1, 1) := by decide +kernel
theorem dX0_has_1 : decode cX0_has 1 = .ok (.ifCond .lt 15, 3) := by decide +kernel
theorem dX0_has_4 : decode cX0_has 4 = .ok (.iload_n 1, 1) := by decide +kernel
theorem dX0_has_5 : decode cX0_has 5 = .ok (.aload_n 0, 1) := by decide +kernel
theorem dX0_has_6 : decode cX0_has 6 = .ok (.getfield 15, 3) := by decide +kernel
theorem dX0_has_9 : decode cX0_has 9 = .ok (.if_icmp .ge 7, 3) := by decide +kernel
theorem dX0_has_12 : decode cX0_has 12 = .ok (.iconst 1, 1) := by decide +kernel
theorem dX0_has_13 : decode cX0_has 13 = .ok (.goto 4, 3) := by decide +kernel
theorem dX0_has_16 : decode cX0_has 16 = .ok (.iconst 0, 1) := by decide +kernel
theorem dX0_has_17 : decode cX0_has 17 = .ok (.ireturn, 1) := by decide +kernel
set_option maxRecDepth 20000 in
theorem ggX0_hasAll_X0_all : GoodIn wsX0_hasAll wsX0_all := goodIn_r _ [5, 6, 7, 8] (by decide +kernel) (by decide +kernel)
set_option maxRecDepth 20000 in
theorem gX0_hasAll_X0_all : GoodIn wsX0_hasAll (wsV RX0 19 RX0 yX0_all wsX0_all) := goodIn_app (goodIn_of _ (by decide +kernel)) ggX0_hasAll_X0_all
theorem dX0_hasAll_0 : decode cX0_hasAll 0 = .ok (.iload_n 1, 1) := by decide +kernel
theorem dX0_hasAll_1 : decode cX0_hasAll 1 = .ok (.ifCond .lt 15, 3) := by decide +kernel
theorem dX0_hasAll_4 : decode cX0_hasAll 4 = .ok (.iload_n 1, 1) := by decide +kernel
theorem dX0_hasAll_5 : decode cX0_hasAll 5 = .ok (.aload_n 0, 1) := by decide +kernel
theorem dX0_hasAll_6 : decode cX0_hasAll 6 = .ok (.invokevirtual 19, 3) := by decide +kernel
theorem dX0_hasAll_9 : decode cX0_hasAll 9 = .ok (.if_icmp .gt 7, 3) := by decide +kernel
theorem dX0_hasAll_12 : decode cX0_hasAll 12 = .ok (.iconst 1, 1) := by decide +kernel
theorem dX0_hasAll_13 : decode cX0_hasAll 13 = .ok (.goto 4, 3) := by decide +kernel
theorem dX0_hasAll_16 : decode cX0_hasAll 16 = .ok (.iconst 0, 1) := by decide +kernel
theorem dX0_hasAll_17 : decode cX0_hasAll 17 = .ok (.ireturn, 1) := by decide +kernel
set_option maxRecDepth 20000 in
theorem ggX0_knows_X5_isDeed : GoodIn wsX0_knows wsX5_isDeed := goodIn_r _ [3] (by decide +kernel) (by decide +kernel)
set_option maxRecDepth 20000 in
theorem gX0_knows_X5_isDeed_n23 : GoodIn wsX0_knows (wsX5_isDeed) := ggX0_knows_X5_isDeed
set_option maxRecDepth 20000 in
theorem ggX0_knows_X5_doer : GoodIn wsX0_knows wsX5_doer := goodIn_r _ [5] (by decide +kernel) (by decide +kernel)
set_option maxRecDepth 20000 in
theorem gX0_knows_X5_doer_n27 : GoodIn wsX0_knows (wsX5_doer) := ggX0_knows_X5_doer
set_option maxRecDepth 20000 in
theorem ggX0_knows_X0_has : GoodIn wsX0_knows wsX0_has := goodIn_r _ [10, 11, 15, 16] (by decide +kernel) (by decide +kernel)
set_option maxRecDepth 20000 in
theorem gX0_knows_X0_has : GoodIn wsX0_knows (wsV RX0 31 RX0 yX0_has wsX0_has) := goodIn_app (goodIn_of _ (by decide +kernel)) ggX0_knows_X0_has
set_option maxRecDepth 20000 in
theorem ggX0_knows_X5_prey : GoodIn wsX0_knows wsX5_prey := goodIn_r _ [13, 14, 4, 2, 5] (by decide +kernel) (by decide +kernel)
set_option maxRecDepth 20000 in
theorem gX0_knows_X5_prey_n34 : GoodIn wsX0_knows (wsX5_prey) := ggX0_knows_X5_prey
theorem dX0_knows_0 : decode cX0_knows 0 = .ok (.iload_n 1, 1) := by decide +kernel
theorem dX0_knows_1 : decode cX0_knows 1 = .ok (.invokestatic 23, 3) := by decide +kernel
theorem dX0_knows_4 : decode cX0_knows 4 = .ok (.ifCond .eq 29, 3) := by decide +kernel
theorem dX0_knows_7 : decode cX0_knows 7 = .ok (.aload_n 0, 1) := by decide +kernel
theorem dX0_knows_8 : decode cX0_knows 8 = .ok (.iload_n 1, 1) := by decide +kernel
theorem dX0_knows_9 : decode cX0_knows 9 = .ok (.invokestatic 27, 3) := by decide +kernel
theorem dX0_knows_12 : decode cX0_knows 12 = .ok (.invokevirtual 31, 3) := by decide +kernel
theorem dX0_knows_15 : decode cX0_knows 15 = .ok (.ifCond .eq 18, 3) := by decide +kernel
theorem dX0_knows_18 : decode cX0_knows 18 = .ok (.aload_n 0, 1) := by decide +kernel
theorem dX0_knows_19 : decode cX0_knows 19 = .ok (.iload_n 1, 1) := by decide +kernel
theorem dX0_knows_20 : decode cX0_knows 20 = .ok (.invokestatic 34, 3) := by decide +kernel
theorem dX0_knows_23 : decode cX0_knows 23 = .ok (.invokevirtual 31, 3) := by decide +kernel
theorem dX0_knows_26 : decode cX0_knows 26 = .ok (.ifCond .eq 7, 3) := by decide +kernel
theorem dX0_knows_29 : decode cX0_knows 29 = .ok (.iconst 1, 1) := by decide +kernel
theorem dX0_knows_30 : decode cX0_knows 30 = .ok (.goto 4, 3) := by decide +kernel
theorem dX0_knows_33 : decode cX0_knows 33 = .ok (.iconst 0, 1) := by decide +kernel
theorem dX0_knows_34 : decode cX0_knows 34 = .ok (.ireturn, 1) := by decide +kernel
theorem dX0_join_0 : decode cX0_join 0 = .ok (.aload_n 0, 1) := by decide +kernel
theorem dX0_join_1 : decode cX0_join 1 = .ok (.getfield 15, 3) := by decide +kernel
theorem dX0_join_4 : decode cX0_join 4 = .ok (.iconst 4, 1) := by decide +kernel
theorem dX0_join_5 : decode cX0_join 5 = .ok (.imul, 1) := by decide +kernel
theorem dX0_join_6 : decode cX0_join 6 = .ok (.istore 5, 2) := by decide +kernel
theorem dX0_join_8 : decode cX0_join 8 = .ok (.aload_n 0, 1) := by decide +kernel
theorem dX0_join_9 : decode cX0_join 9 = .ok (.getfield 15, 3) := by decide +kernel
theorem dX0_join_12 : decode cX0_join 12 = .ok (.ifCond .lt 23, 3) := by decide +kernel
theorem dX0_join_15 : decode cX0_join 15 = .ok (.aload_n 0, 1) := by decide +kernel
theorem dX0_join_16 : decode cX0_join 16 = .ok (.getfield 15, 3) := by decide +kernel
theorem dX0_join_19 : decode cX0_join 19 = .ok (.iconst 5, 1) := by decide +kernel
theorem dX0_join_20 : decode cX0_join 20 = .ok (.if_icmp .ge 15, 3) := by decide +kernel
theorem dX0_join_23 : decode cX0_join 23 = .ok (.iload 5, 2) := by decide +kernel
theorem dX0_join_25 : decode cX0_join 25 = .ok (.iconst 3, 1) := by decide +kernel
theorem dX0_join_26 : decode cX0_join 26 = .ok (.iadd, 1) := by decide +kernel
theorem dX0_join_27 : decode cX0_join 27 = .ok (.aload_n 0, 1) := by decide +kernel
theorem dX0_join_28 : decode cX0_join 28 = .ok (.getfield 9, 3) := by decide +kernel
theorem dX0_join_31 : decode cX0_join 31 = .ok (.arraylength, 1) := by decide +kernel
theorem dX0_join_32 : decode cX0_join 32 = .ok (.if_icmp .lt 5, 3) := by decide +kernel
theorem dX0_join_35 : decode cX0_join 35 = .ok (.iconst (-1), 1) := by decide +kernel
theorem dX0_join_36 : decode cX0_join 36 = .ok (.ireturn, 1) := by decide +kernel
theorem dX0_join_37 : decode cX0_join 37 = .ok (.aload_n 0, 1) := by decide +kernel
theorem dX0_join_38 : decode cX0_join 38 = .ok (.getfield 9, 3) := by decide +kernel
theorem dX0_join_41 : decode cX0_join 41 = .ok (.iload 5, 2) := by decide +kernel
theorem dX0_join_43 : decode cX0_join 43 = .ok (.iconst 0, 1) := by decide +kernel
theorem dX0_join_44 : decode cX0_join 44 = .ok (.iadd, 1) := by decide +kernel
theorem dX0_join_45 : decode cX0_join 45 = .ok (.iload_n 1, 1) := by decide +kernel
theorem dX0_join_46 : decode cX0_join 46 = .ok (.iastore, 1) := by decide +kernel
theorem dX0_join_47 : decode cX0_join 47 = .ok (.aload_n 0, 1) := by decide +kernel
theorem dX0_join_48 : decode cX0_join 48 = .ok (.getfield 9, 3) := by decide +kernel
theorem dX0_join_51 : decode cX0_join 51 = .ok (.iload 5, 2) := by decide +kernel
theorem dX0_join_53 : decode cX0_join 53 = .ok (.iconst 1, 1) := by decide +kernel
theorem dX0_join_54 : decode cX0_join 54 = .ok (.iadd, 1) := by decide +kernel
theorem dX0_join_55 : decode cX0_join 55 = .ok (.iload_n 2, 1) := by decide +kernel
theorem dX0_join_56 : decode cX0_join 56 = .ok (.iastore, 1) := by decide +kernel
theorem dX0_join_57 : decode cX0_join 57 = .ok (.aload_n 0, 1) := by decide +kernel
theorem dX0_join_58 : decode cX0_join 58 = .ok (.getfield 9, 3) := by decide +kernel
theorem dX0_join_61 : decode cX0_join 61 = .ok (.iload 5, 2) := by decide +kernel
theorem dX0_join_63 : decode cX0_join 63 = .ok (.iconst 2, 1) := by decide +kernel
theorem dX0_join_64 : decode cX0_join 64 = .ok (.iadd, 1) := by decide +kernel
theorem dX0_join_65 : decode cX0_join 65 = .ok (.iload_n 3, 1) := by decide +kernel
theorem dX0_join_66 : decode cX0_join 66 = .ok (.iastore, 1) := by decide +kernel
theorem dX0_join_67 : decode cX0_join 67 = .ok (.aload_n 0, 1) := by decide +kernel
theorem dX0_join_68 : decode cX0_join 68 = .ok (.getfield 9, 3) := by decide +kernel
theorem dX0_join_71 : decode cX0_join 71 = .ok (.iload 5, 2) := by decide +kernel
theorem dX0_join_73 : decode cX0_join 73 = .ok (.iconst 3, 1) := by decide +kernel
theorem dX0_join_74 : decode cX0_join 74 = .ok (.iadd, 1) := by decide +kernel
theorem dX0_join_75 : decode cX0_join 75 = .ok (.iload 4, 2) := by decide +kernel
theorem dX0_join_77 : decode cX0_join 77 = .ok (.iastore, 1) := by decide +kernel
theorem dX0_join_78 : decode cX0_join 78 = .ok (.aload_n 0, 1) := by decide +kernel
theorem dX0_join_79 : decode cX0_join 79 = .ok (.dup, 1) := by decide +kernel
theorem dX0_join_80 : decode cX0_join 80 = .ok (.getfield 15, 3) := by decide +kernel
theorem dX0_join_83 : decode cX0_join 83 = .ok (.iconst 1, 1) := by decide +kernel
theorem dX0_join_84 : decode cX0_join 84 = .ok (.iadd, 1) := by decide +kernel
theorem dX0_join_85 : decode cX0_join 85 = .ok (.putfield 15, 3) := by decide +kernel
theorem dX0_join_88 : decode cX0_join 88 = .ok (.aload_n 0, 1) := by decide +kernel
theorem dX0_join_89 : decode cX0_join 89 = .ok (.getfield 15, 3) := by decide +kernel
theorem dX0_join_92 : decode cX0_join 92 = .ok (.iconst 1, 1) := by decide +kernel
theorem dX0_join_93 : decode cX0_join 93 = .ok (.isub, 1) := by decide +kernel
theorem dX0_join_94 : decode cX0_join 94 = .ok (.ireturn, 1) := by decide +kernel
theorem dX0_trait_0 : decode cX0_trait 0 = .ok (.iload_n 1, 1) := by decide +kernel
theorem dX0_trait_1 : decode cX0_trait 1 = .ok (.iconst 4, 1) := by decide +kernel
theorem dX0_trait_2 : decode cX0_trait 2 = .ok (.imul, 1) := by decide +kernel
theorem dX0_trait_3 : decode cX0_trait 3 = .ok (.iload_n 2, 1) := by decide +kernel
theorem dX0_trait_4 : decode cX0_trait 4 = .ok (.iadd, 1) := by decide +kernel
theorem dX0_trait_5 : decode cX0_trait 5 = .ok (.istore_n 3, 1) := by decide +kernel
theorem dX0_trait_6 : decode cX0_trait 6 = .ok (.iload_n 3, 1) := by decide +kernel
theorem dX0_trait_7 : decode cX0_trait 7 = .ok (.ifCond .lt 21, 3) := by decide +kernel
theorem dX0_trait_10 : decode cX0_trait 10 = .ok (.iload_n 3, 1) := by decide +kernel
theorem dX0_trait_11 : decode cX0_trait 11 = .ok (.aload_n 0, 1) := by decide +kernel
theorem dX0_trait_12 : decode cX0_trait 12 = .ok (.getfield 9, 3) := by decide +kernel
theorem dX0_trait_15 : decode cX0_trait 15 = .ok (.arraylength, 1) := by decide +kernel
theorem dX0_trait_16 : decode cX0_trait 16 = .ok (.if_icmp .ge 12, 3) := by decide +kernel
theorem dX0_trait_19 : decode cX0_trait 19 = .ok (.aload_n 0, 1) := by decide +kernel
theorem dX0_trait_20 : decode cX0_trait 20 = .ok (.getfield 9, 3) := by decide +kernel
theorem dX0_trait_23 : decode cX0_trait 23 = .ok (.iload_n 3, 1) := by decide +kernel
theorem dX0_trait_24 : decode cX0_trait 24 = .ok (.iaload, 1) := by decide +kernel
theorem dX0_trait_25 : decode cX0_trait 25 = .ok (.goto 4, 3) := by decide +kernel
theorem dX0_trait_28 : decode cX0_trait 28 = .ok (.iconst 0, 1) := by decide +kernel
theorem dX0_trait_29 : decode cX0_trait 29 = .ok (.ireturn, 1) := by decide +kernel
set_option maxRecDepth 20000 in
theorem ggX0_isOf_X0_trait : GoodIn wsX0_isOf wsX0_trait := goodIn_r _ [6, 7, 8, 9] (by decide +kernel) (by decide +kernel)
set_option maxRecDepth 20000 in
theorem gX0_isOf_X0_trait : GoodIn wsX0_isOf (wsV RX0 37 RX0 yX0_trait wsX0_trait) := goodIn_app (goodIn_of _ (by decide +kernel)) ggX0_isOf_X0_trait
theorem dX0_isOf_0 : decode cX0_isOf 0 = .ok (.aload_n 0, 1) := by decide +kernel
theorem dX0_isOf_1 : decode cX0_isOf 1 = .ok (.iload_n 1, 1) := by decide +kernel
theorem dX0_isOf_2 : decode cX0_isOf 2 = .ok (.iconst 0, 1) := by decide +kernel
theorem dX0_isOf_3 : decode cX0_isOf 3 = .ok (.invokevirtual 37, 3) := by decide +kernel
theorem dX0_isOf_6 : decode cX0_isOf 6 = .ok (.istore_n 3, 1) := by decide +kernel
theorem dX0_isOf_7 : decode cX0_isOf 7 = .ok (.iload_n 3, 1) := by decide +kernel
theorem dX0_isOf_8 : decode cX0_isOf 8 = .ok (.ifCond .lt 11, 3) := by decide +kernel
theorem dX0_isOf_11 : decode cX0_isOf 11 = .ok (.iload_n 3, 1) := by decide +kernel
theorem dX0_isOf_12 : decode cX0_isOf 12 = .ok (.getstatic 41, 3) := by decide +kernel
theorem dX0_isOf_15 : decode cX0_isOf 15 = .ok (.arraylength, 1) := by decide +kernel
theorem dX0_isOf_16 : decode cX0_isOf 16 = .ok (.if_icmp .lt 5, 3) := by decide +kernel
theorem dX0_isOf_19 : decode cX0_isOf 19 = .ok (.iconst 0, 1) := by decide +kernel
theorem dX0_isOf_20 : decode cX0_isOf 20 = .ok (.ireturn, 1) := by decide +kernel
theorem dX0_isOf_21 : decode cX0_isOf 21 = .ok (.getstatic 41, 3) := by decide +kernel
theorem dX0_isOf_24 : decode cX0_isOf 24 = .ok (.iload_n 3, 1) := by decide +kernel
theorem dX0_isOf_25 : decode cX0_isOf 25 = .ok (.iaload, 1) := by decide +kernel
theorem dX0_isOf_26 : decode cX0_isOf 26 = .ok (.iload_n 2, 1) := by decide +kernel
theorem dX0_isOf_27 : decode cX0_isOf 27 = .ok (.ishr, 1) := by decide +kernel
theorem dX0_isOf_28 : decode cX0_isOf 28 = .ok (.iconst 1, 1) := by decide +kernel
theorem dX0_isOf_29 : decode cX0_isOf 29 = .ok (.iand, 1) := by decide +kernel
theorem dX0_isOf_30 : decode cX0_isOf 30 = .ok (.iconst 1, 1) := by decide +kernel
theorem dX0_isOf_31 : decode cX0_isOf 31 = .ok (.if_icmp .ne 7, 3) := by decide +kernel
theorem dX0_isOf_34 : decode cX0_isOf 34 = .ok (.iconst 1, 1) := by decide +kernel
theorem dX0_isOf_35 : decode cX0_isOf 35 = .ok (.goto 4, 3) := by decide +kernel
theorem dX0_isOf_38 : decode cX0_isOf 38 = .ok (.iconst 0, 1) := by decide +kernel
theorem dX0_isOf_39 : decode cX0_isOf 39 = .ok (.ireturn, 1) := by decide +kernel
