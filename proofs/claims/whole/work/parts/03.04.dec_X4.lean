theorem dX4_init_0 : decode cX4_init 0 = .ok (.aload_n 0, 1) := by decide +kernel
theorem dX4_init_1 : decode cX4_init 1 = .ok (.invokespecial 1, 3) := by decide +kernel
theorem dX4_init_4 : decode cX4_init 4 = .ok (.aload_n 0, 1) := by decide +kernel
theorem dX4_init_5 : decode cX4_init 5 = .ok (.iconst 4, 1) := by decide +kernel
theorem dX4_init_6 : decode cX4_init 6 = .ok (.newarray .int, 2) := by decide +kernel
theorem dX4_init_8 : decode cX4_init 8 = .ok (.putfield 7, 3) := by decide +kernel
theorem dX4_init_11 : decode cX4_init 11 = .ok (.aload_n 0, 1) := by decide +kernel
theorem dX4_init_12 : decode cX4_init 12 = .ok (.iconst 4, 1) := by decide +kernel
theorem dX4_init_13 : decode cX4_init 13 = .ok (.newarray .int, 2) := by decide +kernel
theorem dX4_init_15 : decode cX4_init 15 = .ok (.putfield 13, 3) := by decide +kernel
theorem dX4_init_18 : decode cX4_init 18 = .ok (.return_, 1) := by decide +kernel
theorem dX4_length_0 : decode cX4_length 0 = .ok (.aload_n 0, 1) := by decide +kernel
theorem dX4_length_1 : decode cX4_length 1 = .ok (.getfield 16, 3) := by decide +kernel
theorem dX4_length_4 : decode cX4_length 4 = .ok (.ireturn, 1) := by decide +kernel
theorem dX4_keep_0 : decode cX4_keep 0 = .ok (.aload_n 0, 1) := by decide +kernel
theorem dX4_keep_1 : decode cX4_keep 1 = .ok (.getfield 16, 3) := by decide +kernel
theorem dX4_keep_4 : decode cX4_keep 4 = .ok (.ifCond .lt 27, 3) := by decide +kernel
theorem dX4_keep_7 : decode cX4_keep 7 = .ok (.aload_n 0, 1) := by decide +kernel
theorem dX4_keep_8 : decode cX4_keep 8 = .ok (.getfield 16, 3) := by decide +kernel
theorem dX4_keep_11 : decode cX4_keep 11 = .ok (.aload_n 0, 1) := by decide +kernel
theorem dX4_keep_12 : decode cX4_keep 12 = .ok (.getfield 7, 3) := by decide +kernel
theorem dX4_keep_15 : decode cX4_keep 15 = .ok (.arraylength, 1) := by decide +kernel
theorem dX4_keep_16 : decode cX4_keep 16 = .ok (.if_icmp .ge 15, 3) := by decide +kernel
theorem dX4_keep_19 : decode cX4_keep 19 = .ok (.aload_n 0, 1) := by decide +kernel
theorem dX4_keep_20 : decode cX4_keep 20 = .ok (.getfield 16, 3) := by decide +kernel
theorem dX4_keep_23 : decode cX4_keep 23 = .ok (.aload_n 0, 1) := by decide +kernel
theorem dX4_keep_24 : decode cX4_keep 24 = .ok (.getfield 13, 3) := by decide +kernel
theorem dX4_keep_27 : decode cX4_keep 27 = .ok (.arraylength, 1) := by decide +kernel
theorem dX4_keep_28 : decode cX4_keep 28 = .ok (.if_icmp .lt 5, 3) := by decide +kernel
theorem dX4_keep_31 : decode cX4_keep 31 = .ok (.iconst 0, 1) := by decide +kernel
theorem dX4_keep_32 : decode cX4_keep 32 = .ok (.ireturn, 1) := by decide +kernel
theorem dX4_keep_33 : decode cX4_keep 33 = .ok (.aload_n 0, 1) := by decide +kernel
theorem dX4_keep_34 : decode cX4_keep 34 = .ok (.getfield 7, 3) := by decide +kernel
theorem dX4_keep_37 : decode cX4_keep 37 = .ok (.aload_n 0, 1) := by decide +kernel
theorem dX4_keep_38 : decode cX4_keep 38 = .ok (.getfield 16, 3) := by decide +kernel
theorem dX4_keep_41 : decode cX4_keep 41 = .ok (.iload_n 1, 1) := by decide +kernel
theorem dX4_keep_42 : decode cX4_keep 42 = .ok (.iastore, 1) := by decide +kernel
theorem dX4_keep_43 : decode cX4_keep 43 = .ok (.aload_n 0, 1) := by decide +kernel
theorem dX4_keep_44 : decode cX4_keep 44 = .ok (.getfield 13, 3) := by decide +kernel
theorem dX4_keep_47 : decode cX4_keep 47 = .ok (.aload_n 0, 1) := by decide +kernel
theorem dX4_keep_48 : decode cX4_keep 48 = .ok (.getfield 16, 3) := by decide +kernel
theorem dX4_keep_51 : decode cX4_keep 51 = .ok (.iload_n 2, 1) := by decide +kernel
theorem dX4_keep_52 : decode cX4_keep 52 = .ok (.iastore, 1) := by decide +kernel
theorem dX4_keep_53 : decode cX4_keep 53 = .ok (.aload_n 0, 1) := by decide +kernel
theorem dX4_keep_54 : decode cX4_keep 54 = .ok (.dup, 1) := by decide +kernel
theorem dX4_keep_55 : decode cX4_keep 55 = .ok (.getfield 16, 3) := by decide +kernel
theorem dX4_keep_58 : decode cX4_keep 58 = .ok (.iconst 1, 1) := by decide +kernel
theorem dX4_keep_59 : decode cX4_keep 59 = .ok (.iadd, 1) := by decide +kernel
theorem dX4_keep_60 : decode cX4_keep 60 = .ok (.putfield 16, 3) := by decide +kernel
theorem dX4_keep_63 : decode cX4_keep 63 = .ok (.iconst 1, 1) := by decide +kernel
theorem dX4_keep_64 : decode cX4_keep 64 = .ok (.ireturn, 1) := by decide +kernel
theorem dX4_clear_0 : decode cX4_clear 0 = .ok (.aload_n 0, 1) := by decide +kernel
theorem dX4_clear_1 : decode cX4_clear 1 = .ok (.getfield 16, 3) := by decide +kernel
theorem dX4_clear_4 : decode cX4_clear 4 = .ok (.istore_n 1, 1) := by decide +kernel
theorem dX4_clear_5 : decode cX4_clear 5 = .ok (.aload_n 0, 1) := by decide +kernel
theorem dX4_clear_6 : decode cX4_clear 6 = .ok (.iconst 0, 1) := by decide +kernel
theorem dX4_clear_7 : decode cX4_clear 7 = .ok (.putfield 16, 3) := by decide +kernel
theorem dX4_clear_10 : decode cX4_clear 10 = .ok (.iload_n 1, 1) := by decide +kernel
theorem dX4_clear_11 : decode cX4_clear 11 = .ok (.ireturn, 1) := by decide +kernel
theorem dX4_copy_0 : decode cX4_copy 0 = .ok (.iconst 0, 1) := by decide +kernel
theorem dX4_copy_1 : decode cX4_copy 1 = .ok (.istore_n 2, 1) := by decide +kernel
theorem dX4_copy_2 : decode cX4_copy 2 = .ok (.iload_n 2, 1) := by decide +kernel
theorem dX4_copy_3 : decode cX4_copy 3 = .ok (.aload_n 0, 1) := by decide +kernel
theorem dX4_copy_4 : decode cX4_copy 4 = .ok (.getfield 7, 3) := by decide +kernel
theorem dX4_copy_7 : decode cX4_copy 7 = .ok (.arraylength, 1) := by decide +kernel
theorem dX4_copy_8 : decode cX4_copy 8 = .ok (.if_icmp .ge 30, 3) := by decide +kernel
theorem dX4_copy_11 : decode cX4_copy 11 = .ok (.iload_n 2, 1) := by decide +kernel
theorem dX4_copy_12 : decode cX4_copy 12 = .ok (.aload_n 1, 1) := by decide +kernel
theorem dX4_copy_13 : decode cX4_copy 13 = .ok (.getfield 7, 3) := by decide +kernel
theorem dX4_copy_16 : decode cX4_copy 16 = .ok (.arraylength, 1) := by decide +kernel
theorem dX4_copy_17 : decode cX4_copy 17 = .ok (.if_icmp .ge 21, 3) := by decide +kernel
theorem dX4_copy_20 : decode cX4_copy 20 = .ok (.aload_n 0, 1) := by decide +kernel
theorem dX4_copy_21 : decode cX4_copy 21 = .ok (.getfield 7, 3) := by decide +kernel
theorem dX4_copy_24 : decode cX4_copy 24 = .ok (.iload_n 2, 1) := by decide +kernel
theorem dX4_copy_25 : decode cX4_copy 25 = .ok (.aload_n 1, 1) := by decide +kernel
theorem dX4_copy_26 : decode cX4_copy 26 = .ok (.getfield 7, 3) := by decide +kernel
theorem dX4_copy_29 : decode cX4_copy 29 = .ok (.iload_n 2, 1) := by decide +kernel
theorem dX4_copy_30 : decode cX4_copy 30 = .ok (.iaload, 1) := by decide +kernel
theorem dX4_copy_31 : decode cX4_copy 31 = .ok (.iastore, 1) := by decide +kernel
theorem dX4_copy_32 : decode cX4_copy 32 = .ok (.iinc 2 1, 3) := by decide +kernel
theorem dX4_copy_35 : decode cX4_copy 35 = .ok (.goto (-33), 3) := by decide +kernel
theorem dX4_copy_38 : decode cX4_copy 38 = .ok (.iconst 0, 1) := by decide +kernel
theorem dX4_copy_39 : decode cX4_copy 39 = .ok (.istore_n 2, 1) := by decide +kernel
theorem dX4_copy_40 : decode cX4_copy 40 = .ok (.iload_n 2, 1) := by decide +kernel
theorem dX4_copy_41 : decode cX4_copy 41 = .ok (.aload_n 0, 1) := by decide +kernel
theorem dX4_copy_42 : decode cX4_copy 42 = .ok (.getfield 13, 3) := by decide +kernel
theorem dX4_copy_45 : decode cX4_copy 45 = .ok (.arraylength, 1) := by decide +kernel
theorem dX4_copy_46 : decode cX4_copy 46 = .ok (.if_icmp .ge 30, 3) := by decide +kernel
theorem dX4_copy_49 : decode cX4_copy 49 = .ok (.iload_n 2, 1) := by decide +kernel
theorem dX4_copy_50 : decode cX4_copy 50 = .ok (.aload_n 1, 1) := by decide +kernel
theorem dX4_copy_51 : decode cX4_copy 51 = .ok (.getfield 13, 3) := by decide +kernel
theorem dX4_copy_54 : decode cX4_copy 54 = .ok (.arraylength, 1) := by decide +kernel
theorem dX4_copy_55 : decode cX4_copy 55 = .ok (.if_icmp .ge 21, 3) := by decide +kernel
theorem dX4_copy_58 : decode cX4_copy 58 = .ok (.aload_n 0, 1) := by decide +kernel
theorem dX4_copy_59 : decode cX4_copy 59 = .ok (.getfield 13, 3) := by decide +kernel
theorem dX4_copy_62 : decode cX4_copy 62 = .ok (.iload_n 2, 1) := by decide +kernel
theorem dX4_copy_63 : decode cX4_copy 63 = .ok (.aload_n 1, 1) := by decide +kernel
theorem dX4_copy_64 : decode cX4_copy 64 = .ok (.getfield 13, 3) := by decide +kernel
theorem dX4_copy_67 : decode cX4_copy 67 = .ok (.iload_n 2, 1) := by decide +kernel
theorem dX4_copy_68 : decode cX4_copy 68 = .ok (.iaload, 1) := by decide +kernel
theorem dX4_copy_69 : decode cX4_copy 69 = .ok (.iastore, 1) := by decide +kernel
theorem dX4_copy_70 : decode cX4_copy 70 = .ok (.iinc 2 1, 3) := by decide +kernel
theorem dX4_copy_73 : decode cX4_copy 73 = .ok (.goto (-33), 3) := by decide +kernel
theorem dX4_copy_76 : decode cX4_copy 76 = .ok (.aload_n 0, 1) := by decide +kernel
theorem dX4_copy_77 : decode cX4_copy 77 = .ok (.aload_n 1, 1) := by decide +kernel
theorem dX4_copy_78 : decode cX4_copy 78 = .ok (.getfield 16, 3) := by decide +kernel
theorem dX4_copy_81 : decode cX4_copy 81 = .ok (.putfield 16, 3) := by decide +kernel
theorem dX4_copy_84 : decode cX4_copy 84 = .ok (.return_, 1) := by decide +kernel
set_option maxRecDepth 20000 in
theorem ggX4_isSoIn_X1_heardBy : GoodIn wsX4_isSoIn wsX1_heardBy := goodIn_r _ [8, 9, 10, 11, 12, 13, 14, 15, 16, 17, 18, 7, 19, 20, 21, 22, 23, 24, 28, 29, 30, 31] (by decide +kernel) (by decide +kernel)
set_option maxRecDepth 20000 in
theorem gX4_isSoIn_X1_heardBy : GoodIn wsX4_isSoIn (wsV RX4 20 RX1 yX1_heardBy wsX1_heardBy) := goodIn_app (goodIn_of _ (by decide +kernel)) ggX4_isSoIn_X1_heardBy
theorem dX4_isSoIn_0 : decode cX4_isSoIn 0 = .ok (.iconst 0, 1) := by decide +kernel
theorem dX4_isSoIn_1 : decode cX4_isSoIn 1 = .ok (.istore_n 2, 1) := by decide +kernel
theorem dX4_isSoIn_2 : decode cX4_isSoIn 2 = .ok (.iload_n 2, 1) := by decide +kernel
theorem dX4_isSoIn_3 : decode cX4_isSoIn 3 = .ok (.aload_n 0, 1) := by decide +kernel
theorem dX4_isSoIn_4 : decode cX4_isSoIn 4 = .ok (.getfield 16, 3) := by decide +kernel
theorem dX4_isSoIn_7 : decode cX4_isSoIn 7 = .ok (.if_icmp .ge 48, 3) := by decide +kernel
theorem dX4_isSoIn_10 : decode cX4_isSoIn 10 = .ok (.iload_n 2, 1) := by decide +kernel
theorem dX4_isSoIn_11 : decode cX4_isSoIn 11 = .ok (.aload_n 0, 1) := by decide +kernel
theorem dX4_isSoIn_12 : decode cX4_isSoIn 12 = .ok (.getfield 7, 3) := by decide +kernel
theorem dX4_isSoIn_15 : decode cX4_isSoIn 15 = .ok (.arraylength, 1) := by decide +kernel
theorem dX4_isSoIn_16 : decode cX4_isSoIn 16 = .ok (.if_icmp .ge 39, 3) := by decide +kernel
theorem dX4_isSoIn_19 : decode cX4_isSoIn 19 = .ok (.iload_n 2, 1) := by decide +kernel
theorem dX4_isSoIn_20 : decode cX4_isSoIn 20 = .ok (.aload_n 0, 1) := by decide +kernel
theorem dX4_isSoIn_21 : decode cX4_isSoIn 21 = .ok (.getfield 13, 3) := by decide +kernel
theorem dX4_isSoIn_24 : decode cX4_isSoIn 24 = .ok (.arraylength, 1) := by decide +kernel
theorem dX4_isSoIn_25 : decode cX4_isSoIn 25 = .ok (.if_icmp .ge 30, 3) := by decide +kernel
theorem dX4_isSoIn_28 : decode cX4_isSoIn 28 = .ok (.aload_n 1, 1) := by decide +kernel
theorem dX4_isSoIn_29 : decode cX4_isSoIn 29 = .ok (.aload_n 0, 1) := by decide +kernel
theorem dX4_isSoIn_30 : decode cX4_isSoIn 30 = .ok (.getfield 7, 3) := by decide +kernel
theorem dX4_isSoIn_33 : decode cX4_isSoIn 33 = .ok (.iload_n 2, 1) := by decide +kernel
theorem dX4_isSoIn_34 : decode cX4_isSoIn 34 = .ok (.iaload, 1) := by decide +kernel
theorem dX4_isSoIn_35 : decode cX4_isSoIn 35 = .ok (.invokevirtual 20, 3) := by decide +kernel
theorem dX4_isSoIn_38 : decode cX4_isSoIn 38 = .ok (.aload_n 0, 1) := by decide +kernel
theorem dX4_isSoIn_39 : decode cX4_isSoIn 39 = .ok (.getfield 13, 3) := by decide +kernel
theorem dX4_isSoIn_42 : decode cX4_isSoIn 42 = .ok (.iload_n 2, 1) := by decide +kernel
theorem dX4_isSoIn_43 : decode cX4_isSoIn 43 = .ok (.iaload, 1) := by decide +kernel
theorem dX4_isSoIn_44 : decode cX4_isSoIn 44 = .ok (.if_icmp .eq 5, 3) := by decide +kernel
theorem dX4_isSoIn_47 : decode cX4_isSoIn 47 = .ok (.iconst 0, 1) := by decide +kernel
theorem dX4_isSoIn_48 : decode cX4_isSoIn 48 = .ok (.ireturn, 1) := by decide +kernel
theorem dX4_isSoIn_49 : decode cX4_isSoIn 49 = .ok (.iinc 2 1, 3) := by decide +kernel
theorem dX4_isSoIn_52 : decode cX4_isSoIn 52 = .ok (.goto (-50), 3) := by decide +kernel
theorem dX4_isSoIn_55 : decode cX4_isSoIn 55 = .ok (.iconst 1, 1) := by decide +kernel
theorem dX4_isSoIn_56 : decode cX4_isSoIn 56 = .ok (.ireturn, 1) := by decide +kernel
