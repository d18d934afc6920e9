theorem dX6_init_0 : decode cX6_init 0 = .ok (.aload_n 0, 1) := by decide +kernel
theorem dX6_init_1 : decode cX6_init 1 = .ok (.invokespecial 1, 3) := by decide +kernel
theorem dX6_init_4 : decode cX6_init 4 = .ok (.aload_n 0, 1) := by decide +kernel
theorem dX6_init_5 : decode cX6_init 5 = .ok (.bipush 40, 2) := by decide +kernel
theorem dX6_init_7 : decode cX6_init 7 = .ok (.newarray .int, 2) := by decide +kernel
theorem dX6_init_9 : decode cX6_init 9 = .ok (.putfield 7, 3) := by decide +kernel
theorem dX6_init_12 : decode cX6_init 12 = .ok (.aload_n 0, 1) := by decide +kernel
theorem dX6_init_13 : decode cX6_init 13 = .ok (.bipush 10, 2) := by decide +kernel
theorem dX6_init_15 : decode cX6_init 15 = .ok (.newarray .int, 2) := by decide +kernel
theorem dX6_init_17 : decode cX6_init 17 = .ok (.putfield 13, 3) := by decide +kernel
theorem dX6_init_20 : decode cX6_init 20 = .ok (.aload_n 0, 1) := by decide +kernel
theorem dX6_init_21 : decode cX6_init 21 = .ok (.bipush 20, 2) := by decide +kernel
theorem dX6_init_23 : decode cX6_init 23 = .ok (.newarray .int, 2) := by decide +kernel
theorem dX6_init_25 : decode cX6_init 25 = .ok (.putfield 16, 3) := by decide +kernel
theorem dX6_init_28 : decode cX6_init 28 = .ok (.aload_n 0, 1) := by decide +kernel
theorem dX6_init_29 : decode cX6_init 29 = .ok (.sipush 7776, 3) := by decide +kernel
theorem dX6_init_32 : decode cX6_init 32 = .ok (.newarray .int, 2) := by decide +kernel
theorem dX6_init_34 : decode cX6_init 34 = .ok (.putfield 19, 3) := by decide +kernel
theorem dX6_init_37 : decode cX6_init 37 = .ok (.aload_n 0, 1) := by decide +kernel
theorem dX6_init_38 : decode cX6_init 38 = .ok (.sipush 7776, 3) := by decide +kernel
theorem dX6_init_41 : decode cX6_init 41 = .ok (.newarray .int, 2) := by decide +kernel
theorem dX6_init_43 : decode cX6_init 43 = .ok (.putfield 22, 3) := by decide +kernel
theorem dX6_init_46 : decode cX6_init 46 = .ok (.aload_n 0, 1) := by decide +kernel
theorem dX6_init_47 : decode cX6_init 47 = .ok (.sipush 7776, 3) := by decide +kernel
theorem dX6_init_50 : decode cX6_init 50 = .ok (.newarray .int, 2) := by decide +kernel
theorem dX6_init_52 : decode cX6_init 52 = .ok (.putfield 25, 3) := by decide +kernel
theorem dX6_init_55 : decode cX6_init 55 = .ok (.aload_n 0, 1) := by decide +kernel
theorem dX6_init_56 : decode cX6_init 56 = .ok (.bipush 8, 2) := by decide +kernel
theorem dX6_init_58 : decode cX6_init 58 = .ok (.newarray .int, 2) := by decide +kernel
theorem dX6_init_60 : decode cX6_init 60 = .ok (.putfield 28, 3) := by decide +kernel
theorem dX6_init_63 : decode cX6_init 63 = .ok (.aload_n 0, 1) := by decide +kernel
theorem dX6_init_64 : decode cX6_init 64 = .ok (.bipush 32, 2) := by decide +kernel
theorem dX6_init_66 : decode cX6_init 66 = .ok (.newarray .int, 2) := by decide +kernel
theorem dX6_init_68 : decode cX6_init 68 = .ok (.putfield 31, 3) := by decide +kernel
theorem dX6_init_71 : decode cX6_init 71 = .ok (.aload_n 0, 1) := by decide +kernel
theorem dX6_init_72 : decode cX6_init 72 = .ok (.bipush 8, 2) := by decide +kernel
theorem dX6_init_74 : decode cX6_init 74 = .ok (.newarray .int, 2) := by decide +kernel
theorem dX6_init_76 : decode cX6_init 76 = .ok (.putfield 34, 3) := by decide +kernel
theorem dX6_init_79 : decode cX6_init 79 = .ok (.aload_n 0, 1) := by decide +kernel
theorem dX6_init_80 : decode cX6_init 80 = .ok (.iconst (-1), 1) := by decide +kernel
theorem dX6_init_81 : decode cX6_init 81 = .ok (.putfield 37, 3) := by decide +kernel
theorem dX6_init_84 : decode cX6_init 84 = .ok (.return_, 1) := by decide +kernel
theorem dX6_in_0 : decode cX6_in 0 = .ok (.lload_n 0, 1) := by decide +kernel
theorem dX6_in_1 : decode cX6_in 1 = .ok (.lload_n 2, 1) := by decide +kernel
theorem dX6_in_2 : decode cX6_in 2 = .ok (.lcmp, 1) := by decide +kernel
theorem dX6_in_3 : decode cX6_in 3 = .ok (.ifCond .lt 14, 3) := by decide +kernel
theorem dX6_in_6 : decode cX6_in 6 = .ok (.lload_n 0, 1) := by decide +kernel
theorem dX6_in_7 : decode cX6_in 7 = .ok (.lload 4, 2) := by decide +kernel
theorem dX6_in_9 : decode cX6_in 9 = .ok (.lcmp, 1) := by decide +kernel
theorem dX6_in_10 : decode cX6_in 10 = .ok (.ifCond .gt 7, 3) := by decide +kernel
theorem dX6_in_13 : decode cX6_in 13 = .ok (.iconst 1, 1) := by decide +kernel
theorem dX6_in_14 : decode cX6_in 14 = .ok (.goto 4, 3) := by decide +kernel
theorem dX6_in_17 : decode cX6_in 17 = .ok (.iconst 0, 1) := by decide +kernel
theorem dX6_in_18 : decode cX6_in 18 = .ok (.ireturn, 1) := by decide +kernel
set_option maxRecDepth 20000 in
theorem ggX6_letter_X6_in : GoodIn wsX6_letter wsX6_in := goodIn_r _ [7] (by decide +kernel) (by decide +kernel)
set_option maxRecDepth 20000 in
theorem gX6_letter_X6_in : GoodIn wsX6_letter (va_wsS RX6 43 yX6_in wsX6_in) := goodIn_app (goodIn_of _ (by decide +kernel)) ggX6_letter_X6_in
theorem dX6_letter_0 : decode cX6_letter 0 = .ok (.iload_n 1, 1) := by decide +kernel
theorem dX6_letter_1 : decode cX6_letter 1 = .ok (.i2l, 1) := by decide +kernel
theorem dX6_letter_2 : decode cX6_letter 2 = .ok (.lconst 1, 1) := by decide +kernel
theorem dX6_letter_3 : decode cX6_letter 3 = .ok (.ldc2_w 41, 3) := by decide +kernel
theorem dX6_letter_6 : decode cX6_letter 6 = .ok (.invokestatic 43, 3) := by decide +kernel
theorem dX6_letter_9 : decode cX6_letter 9 = .ok (.ifCond .ne 6, 3) := by decide +kernel
theorem dX6_letter_12 : decode cX6_letter 12 = .ok (.bipush (-102), 2) := by decide +kernel
theorem dX6_letter_14 : decode cX6_letter 14 = .ok (.ireturn, 1) := by decide +kernel
theorem dX6_letter_15 : decode cX6_letter 15 = .ok (.aload_n 0, 1) := by decide +kernel
theorem dX6_letter_16 : decode cX6_letter 16 = .ok (.getfield 47, 3) := by decide +kernel
theorem dX6_letter_19 : decode cX6_letter 19 = .ok (.bipush 40, 2) := by decide +kernel
theorem dX6_letter_21 : decode cX6_letter 21 = .ok (.if_icmp .ne 6, 3) := by decide +kernel
theorem dX6_letter_24 : decode cX6_letter 24 = .ok (.bipush (-104), 2) := by decide +kernel
theorem dX6_letter_26 : decode cX6_letter 26 = .ok (.ireturn, 1) := by decide +kernel
theorem dX6_letter_27 : decode cX6_letter 27 = .ok (.aload_n 0, 1) := by decide +kernel
theorem dX6_letter_28 : decode cX6_letter 28 = .ok (.getfield 7, 3) := by decide +kernel
theorem dX6_letter_31 : decode cX6_letter 31 = .ok (.aload_n 0, 1) := by decide +kernel
theorem dX6_letter_32 : decode cX6_letter 32 = .ok (.getfield 47, 3) := by decide +kernel
theorem dX6_letter_35 : decode cX6_letter 35 = .ok (.iload_n 1, 1) := by decide +kernel
theorem dX6_letter_36 : decode cX6_letter 36 = .ok (.iastore, 1) := by decide +kernel
theorem dX6_letter_37 : decode cX6_letter 37 = .ok (.aload_n 0, 1) := by decide +kernel
theorem dX6_letter_38 : decode cX6_letter 38 = .ok (.dup, 1) := by decide +kernel
theorem dX6_letter_39 : decode cX6_letter 39 = .ok (.getfield 47, 3) := by decide +kernel
theorem dX6_letter_42 : decode cX6_letter 42 = .ok (.iconst 1, 1) := by decide +kernel
theorem dX6_letter_43 : decode cX6_letter 43 = .ok (.iadd, 1) := by decide +kernel
theorem dX6_letter_44 : decode cX6_letter 44 = .ok (.putfield 47, 3) := by decide +kernel
theorem dX6_letter_47 : decode cX6_letter 47 = .ok (.aload_n 0, 1) := by decide +kernel
theorem dX6_letter_48 : decode cX6_letter 48 = .ok (.getfield 47, 3) := by decide +kernel
theorem dX6_letter_51 : decode cX6_letter 51 = .ok (.ireturn, 1) := by decide +kernel
theorem dX6_blank_0 : decode cX6_blank 0 = .ok (.aload_n 0, 1) := by decide +kernel
theorem dX6_blank_1 : decode cX6_blank 1 = .ok (.getfield 47, 3) := by decide +kernel
theorem dX6_blank_4 : decode cX6_blank 4 = .ok (.istore_n 1, 1) := by decide +kernel
theorem dX6_blank_5 : decode cX6_blank 5 = .ok (.aload_n 0, 1) := by decide +kernel
theorem dX6_blank_6 : decode cX6_blank 6 = .ok (.iconst 0, 1) := by decide +kernel
theorem dX6_blank_7 : decode cX6_blank 7 = .ok (.putfield 47, 3) := by decide +kernel
theorem dX6_blank_10 : decode cX6_blank 10 = .ok (.iload_n 1, 1) := by decide +kernel
theorem dX6_blank_11 : decode cX6_blank 11 = .ok (.ireturn, 1) := by decide +kernel
set_option maxRecDepth 20000 in
theorem ggX6_goDigit_X6_in : GoodIn wsX6_goDigit wsX6_in := goodIn_r _ [9] (by decide +kernel) (by decide +kernel)
set_option maxRecDepth 20000 in
theorem gX6_goDigit_X6_in : GoodIn wsX6_goDigit (va_wsS RX6 43 yX6_in wsX6_in) := goodIn_app (goodIn_of _ (by decide +kernel)) ggX6_goDigit_X6_in
theorem dX6_goDigit_0 : decode cX6_goDigit 0 = .ok (.iload_n 1, 1) := by decide +kernel
theorem dX6_goDigit_1 : decode cX6_goDigit 1 = .ok (.i2l, 1) := by decide +kernel
theorem dX6_goDigit_2 : decode cX6_goDigit 2 = .ok (.lconst 0, 1) := by decide +kernel
theorem dX6_goDigit_3 : decode cX6_goDigit 3 = .ok (.ldc2_w 50, 3) := by decide +kernel
theorem dX6_goDigit_6 : decode cX6_goDigit 6 = .ok (.invokestatic 43, 3) := by decide +kernel
theorem dX6_goDigit_9 : decode cX6_goDigit 9 = .ok (.ifCond .ne 5, 3) := by decide +kernel
theorem dX6_goDigit_12 : decode cX6_goDigit 12 = .ok (.iconst 0, 1) := by decide +kernel
theorem dX6_goDigit_13 : decode cX6_goDigit 13 = .ok (.ireturn, 1) := by decide +kernel
theorem dX6_goDigit_14 : decode cX6_goDigit 14 = .ok (.aload_n 0, 1) := by decide +kernel
theorem dX6_goDigit_15 : decode cX6_goDigit 15 = .ok (.dup, 1) := by decide +kernel
theorem dX6_goDigit_16 : decode cX6_goDigit 16 = .ok (.getfield 52, 3) := by decide +kernel
theorem dX6_goDigit_19 : decode cX6_goDigit 19 = .ok (.aload_n 0, 1) := by decide +kernel
theorem dX6_goDigit_20 : decode cX6_goDigit 20 = .ok (.getfield 55, 3) := by decide +kernel
theorem dX6_goDigit_23 : decode cX6_goDigit 23 = .ok (.iconst 1, 1) := by decide +kernel
theorem dX6_goDigit_24 : decode cX6_goDigit 24 = .ok (.if_icmp .ne 9, 3) := by decide +kernel
theorem dX6_goDigit_27 : decode cX6_goDigit 27 = .ok (.iconst 5, 1) := by decide +kernel
theorem dX6_goDigit_28 : decode cX6_goDigit 28 = .ok (.iload_n 1, 1) := by decide +kernel
theorem dX6_goDigit_29 : decode cX6_goDigit 29 = .ok (.imul, 1) := by decide +kernel
theorem dX6_goDigit_30 : decode cX6_goDigit 30 = .ok (.goto 4, 3) := by decide +kernel
theorem dX6_goDigit_33 : decode cX6_goDigit 33 = .ok (.iload_n 1, 1) := by decide +kernel
theorem dX6_goDigit_34 : decode cX6_goDigit 34 = .ok (.iadd, 1) := by decide +kernel
theorem dX6_goDigit_35 : decode cX6_goDigit 35 = .ok (.putfield 52, 3) := by decide +kernel
theorem dX6_goDigit_38 : decode cX6_goDigit 38 = .ok (.aload_n 0, 1) := by decide +kernel
theorem dX6_goDigit_39 : decode cX6_goDigit 39 = .ok (.getfield 55, 3) := by decide +kernel
theorem dX6_goDigit_42 : decode cX6_goDigit 42 = .ok (.iconst 2, 1) := by decide +kernel
theorem dX6_goDigit_43 : decode cX6_goDigit 43 = .ok (.if_icmp .ne 26, 3) := by decide +kernel
theorem dX6_goDigit_46 : decode cX6_goDigit 46 = .ok (.aload_n 0, 1) := by decide +kernel
theorem dX6_goDigit_47 : decode cX6_goDigit 47 = .ok (.getfield 13, 3) := by decide +kernel
theorem dX6_goDigit_50 : decode cX6_goDigit 50 = .ok (.aload_n 0, 1) := by decide +kernel
theorem dX6_goDigit_51 : decode cX6_goDigit 51 = .ok (.getfield 58, 3) := by decide +kernel
theorem dX6_goDigit_54 : decode cX6_goDigit 54 = .ok (.aload_n 0, 1) := by decide +kernel
theorem dX6_goDigit_55 : decode cX6_goDigit 55 = .ok (.getfield 52, 3) := by decide +kernel
theorem dX6_goDigit_58 : decode cX6_goDigit 58 = .ok (.iastore, 1) := by decide +kernel
theorem dX6_goDigit_59 : decode cX6_goDigit 59 = .ok (.aload_n 0, 1) := by decide +kernel
theorem dX6_goDigit_60 : decode cX6_goDigit 60 = .ok (.dup, 1) := by decide +kernel
theorem dX6_goDigit_61 : decode cX6_goDigit 61 = .ok (.getfield 58, 3) := by decide +kernel
theorem dX6_goDigit_64 : decode cX6_goDigit 64 = .ok (.iconst 1, 1) := by decide +kernel
theorem dX6_goDigit_65 : decode cX6_goDigit 65 = .ok (.iadd, 1) := by decide +kernel
theorem dX6_goDigit_66 : decode cX6_goDigit 66 = .ok (.putfield 58, 3) := by decide +kernel
theorem dX6_goDigit_69 : decode cX6_goDigit 69 = .ok (.aload_n 0, 1) := by decide +kernel
theorem dX6_goDigit_70 : decode cX6_goDigit 70 = .ok (.dup, 1) := by decide +kernel
theorem dX6_goDigit_71 : decode cX6_goDigit 71 = .ok (.getfield 55, 3) := by decide +kernel
theorem dX6_goDigit_74 : decode cX6_goDigit 74 = .ok (.iconst 1, 1) := by decide +kernel
theorem dX6_goDigit_75 : decode cX6_goDigit 75 = .ok (.iadd, 1) := by decide +kernel
theorem dX6_goDigit_76 : decode cX6_goDigit 76 = .ok (.putfield 55, 3) := by decide +kernel
theorem dX6_goDigit_79 : decode cX6_goDigit 79 = .ok (.iconst 1, 1) := by decide +kernel
theorem dX6_goDigit_80 : decode cX6_goDigit 80 = .ok (.ireturn, 1) := by decide +kernel
set_option maxRecDepth 20000 in
theorem ggX6_go_X6_goDigit : GoodIn wsX6_go wsX6_goDigit := goodIn_r _ [8, 9, 2, 1, 10, 3, 11, 12, 7, 13, 14, 15, 16, 17, 18, 19, 20, 21, 22, 23, 24, 25, 26, 27, 28, 29, 30, 31, 32, 33, 34, 35, 36, 37] (by decide +kernel) (by decide +kernel)
set_option maxRecDepth 20000 in
theorem gX6_go_X6_goDigit : GoodIn wsX6_go (wsV RX6 61 RX6 yX6_goDigit wsX6_goDigit) := goodIn_app (goodIn_of _ (by decide +kernel)) ggX6_go_X6_goDigit
theorem dX6_go_0 : decode cX6_go 0 = .ok (.aload_n 0, 1) := by decide +kernel
theorem dX6_go_1 : decode cX6_go 1 = .ok (.getfield 55, 3) := by decide +kernel
theorem dX6_go_4 : decode cX6_go 4 = .ok (.ifCond .ne 69, 3) := by decide +kernel
theorem dX6_go_7 : decode cX6_go 7 = .ok (.aload_n 0, 1) := by decide +kernel
theorem dX6_go_8 : decode cX6_go 8 = .ok (.iload_n 1, 1) := by decide +kernel
theorem dX6_go_9 : decode cX6_go 9 = .ok (.bipush 99, 2) := by decide +kernel
theorem dX6_go_11 : decode cX6_go 11 = .ok (.if_icmp .ne 8, 3) := by decide +kernel
theorem dX6_go_14 : decode cX6_go 14 = .ok (.bipush 30, 2) := by decide +kernel
theorem dX6_go_16 : decode cX6_go 16 = .ok (.goto 15, 3) := by decide +kernel
theorem dX6_go_19 : decode cX6_go 19 = .ok (.iload_n 1, 1) := by decide +kernel
theorem dX6_go_20 : decode cX6_go 20 = .ok (.bipush 121, 2) := by decide +kernel
theorem dX6_go_22 : decode cX6_go 22 = .ok (.if_icmp .ne 8, 3) := by decide +kernel
theorem dX6_go_25 : decode cX6_go 25 = .ok (.bipush 40, 2) := by decide +kernel
theorem dX6_go_27 : decode cX6_go 27 = .ok (.goto 4, 3) := by decide +kernel
theorem dX6_go_30 : decode cX6_go 30 = .ok (.iconst 0, 1) := by decide +kernel
theorem dX6_go_31 : decode cX6_go 31 = .ok (.putfield 52, 3) := by decide +kernel
theorem dX6_go_34 : decode cX6_go 34 = .ok (.aload_n 0, 1) := by decide +kernel
theorem dX6_go_35 : decode cX6_go 35 = .ok (.iload_n 1, 1) := by decide +kernel
theorem dX6_go_36 : decode cX6_go 36 = .ok (.bipush 115, 2) := by decide +kernel
theorem dX6_go_38 : decode cX6_go 38 = .ok (.if_icmp .ne 7, 3) := by decide +kernel
theorem dX6_go_41 : decode cX6_go 41 = .ok (.iconst 1, 1) := by decide +kernel
theorem dX6_go_42 : decode cX6_go 42 = .ok (.goto 4, 3) := by decide +kernel
theorem dX6_go_45 : decode cX6_go 45 = .ok (.iconst 2, 1) := by decide +kernel
theorem dX6_go_46 : decode cX6_go 46 = .ok (.putfield 55, 3) := by decide +kernel
theorem dX6_go_49 : decode cX6_go 49 = .ok (.iload_n 1, 1) := by decide +kernel
theorem dX6_go_50 : decode cX6_go 50 = .ok (.bipush 115, 2) := by decide +kernel
theorem dX6_go_52 : decode cX6_go 52 = .ok (.if_icmp .eq 15, 3) := by decide +kernel
theorem dX6_go_55 : decode cX6_go 55 = .ok (.iload_n 1, 1) := by decide +kernel
theorem dX6_go_56 : decode cX6_go 56 = .ok (.bipush 99, 2) := by decide +kernel
theorem dX6_go_58 : decode cX6_go 58 = .ok (.if_icmp .eq 9, 3) := by decide +kernel
theorem dX6_go_61 : decode cX6_go 61 = .ok (.iload_n 1, 1) := by decide +kernel
theorem dX6_go_62 : decode cX6_go 62 = .ok (.bipush 121, 2) := by decide +kernel
theorem dX6_go_64 : decode cX6_go 64 = .ok (.if_icmp .ne 7, 3) := by decide +kernel
theorem dX6_go_67 : decode cX6_go 67 = .ok (.iconst 1, 1) := by decide +kernel
theorem dX6_go_68 : decode cX6_go 68 = .ok (.goto 4, 3) := by decide +kernel
theorem dX6_go_71 : decode cX6_go 71 = .ok (.iconst 0, 1) := by decide +kernel
theorem dX6_go_72 : decode cX6_go 72 = .ok (.ireturn, 1) := by decide +kernel
theorem dX6_go_73 : decode cX6_go 73 = .ok (.aload_n 0, 1) := by decide +kernel
theorem dX6_go_74 : decode cX6_go 74 = .ok (.getfield 55, 3) := by decide +kernel
theorem dX6_go_77 : decode cX6_go 77 = .ok (.iconst 3, 1) := by decide +kernel
theorem dX6_go_78 : decode cX6_go 78 = .ok (.if_icmp .ne 29, 3) := by decide +kernel
theorem dX6_go_81 : decode cX6_go 81 = .ok (.aload_n 0, 1) := by decide +kernel
theorem dX6_go_82 : decode cX6_go 82 = .ok (.iconst 0, 1) := by decide +kernel
theorem dX6_go_83 : decode cX6_go 83 = .ok (.putfield 55, 3) := by decide +kernel
theorem dX6_go_86 : decode cX6_go 86 = .ok (.iload_n 1, 1) := by decide +kernel
theorem dX6_go_87 : decode cX6_go 87 = .ok (.bipush 44, 2) := by decide +kernel
theorem dX6_go_89 : decode cX6_go 89 = .ok (.if_icmp .ne 16, 3) := by decide +kernel
theorem dX6_go_92 : decode cX6_go 92 = .ok (.aload_n 0, 1) := by decide +kernel
theorem dX6_go_93 : decode cX6_go 93 = .ok (.getfield 58, 3) := by decide +kernel
theorem dX6_go_96 : decode cX6_go 96 = .ok (.bipush 10, 2) := by decide +kernel
theorem dX6_go_98 : decode cX6_go 98 = .ok (.if_icmp .ge 7, 3) := by decide +kernel
theorem dX6_go_101 : decode cX6_go 101 = .ok (.iconst 1, 1) := by decide +kernel
theorem dX6_go_102 : decode cX6_go 102 = .ok (.goto 4, 3) := by decide +kernel
theorem dX6_go_105 : decode cX6_go 105 = .ok (.iconst 0, 1) := by decide +kernel
theorem dX6_go_106 : decode cX6_go 106 = .ok (.ireturn, 1) := by decide +kernel
theorem dX6_go_107 : decode cX6_go 107 = .ok (.aload_n 0, 1) := by decide +kernel
theorem dX6_go_108 : decode cX6_go 108 = .ok (.iload_n 1, 1) := by decide +kernel
theorem dX6_go_109 : decode cX6_go 109 = .ok (.bipush 48, 2) := by decide +kernel
theorem dX6_go_111 : decode cX6_go 111 = .ok (.isub, 1) := by decide +kernel
theorem dX6_go_112 : decode cX6_go 112 = .ok (.invokevirtual 61, 3) := by decide +kernel
theorem dX6_go_115 : decode cX6_go 115 = .ok (.ireturn, 1) := by decide +kernel
set_option maxRecDepth 20000 in
theorem ggX6_faultOf_X6_go : GoodIn wsX6_faultOf wsX6_go := goodIn_r _ [9, 2, 10, 1, 11, 12, 13, 8, 14, 15, 16, 17, 18, 19, 20, 21, 22, 23, 24, 25, 26, 27, 28, 29, 30, 31, 32, 33, 34, 35, 36, 37, 38, 39, 40, 41, 42, 43] (by decide +kernel) (by decide +kernel)
set_option maxRecDepth 20000 in
theorem gX6_faultOf_X6_go : GoodIn wsX6_faultOf (wsV RX6 65 RX6 yX6_go wsX6_go) := goodIn_app (goodIn_of _ (by decide +kernel)) ggX6_faultOf_X6_go
theorem dX6_faultOf_0 : decode cX6_faultOf 0 = .ok (.aload_n 0, 1) := by decide +kernel
theorem dX6_faultOf_1 : decode cX6_faultOf 1 = .ok (.iconst 0, 1) := by decide +kernel
theorem dX6_faultOf_2 : decode cX6_faultOf 2 = .ok (.putfield 58, 3) := by decide +kernel
theorem dX6_faultOf_5 : decode cX6_faultOf 5 = .ok (.aload_n 0, 1) := by decide +kernel
theorem dX6_faultOf_6 : decode cX6_faultOf 6 = .ok (.iconst 0, 1) := by decide +kernel
theorem dX6_faultOf_7 : decode cX6_faultOf 7 = .ok (.putfield 55, 3) := by decide +kernel
theorem dX6_faultOf_10 : decode cX6_faultOf 10 = .ok (.iconst 0, 1) := by decide +kernel
theorem dX6_faultOf_11 : decode cX6_faultOf 11 = .ok (.istore_n 1, 1) := by decide +kernel
theorem dX6_faultOf_12 : decode cX6_faultOf 12 = .ok (.iload_n 1, 1) := by decide +kernel
theorem dX6_faultOf_13 : decode cX6_faultOf 13 = .ok (.aload_n 0, 1) := by decide +kernel
theorem dX6_faultOf_14 : decode cX6_faultOf 14 = .ok (.getfield 47, 3) := by decide +kernel
theorem dX6_faultOf_17 : decode cX6_faultOf 17 = .ok (.if_icmp .ge 22, 3) := by decide +kernel
theorem dX6_faultOf_20 : decode cX6_faultOf 20 = .ok (.aload_n 0, 1) := by decide +kernel
theorem dX6_faultOf_21 : decode cX6_faultOf 21 = .ok (.aload_n 0, 1) := by decide +kernel
theorem dX6_faultOf_22 : decode cX6_faultOf 22 = .ok (.getfield 7, 3) := by decide +kernel
theorem dX6_faultOf_25 : decode cX6_faultOf 25 = .ok (.iload_n 1, 1) := by decide +kernel
theorem dX6_faultOf_26 : decode cX6_faultOf 26 = .ok (.iaload, 1) := by decide +kernel
theorem dX6_faultOf_27 : decode cX6_faultOf 27 = .ok (.invokevirtual 65, 3) := by decide +kernel
theorem dX6_faultOf_30 : decode cX6_faultOf 30 = .ok (.ifCond .eq 9, 3) := by decide +kernel
theorem dX6_faultOf_33 : decode cX6_faultOf 33 = .ok (.iinc 1 1, 3) := by decide +kernel
theorem dX6_faultOf_36 : decode cX6_faultOf 36 = .ok (.goto (-24), 3) := by decide +kernel
theorem dX6_faultOf_39 : decode cX6_faultOf 39 = .ok (.iload_n 1, 1) := by decide +kernel
theorem dX6_faultOf_40 : decode cX6_faultOf 40 = .ok (.ireturn, 1) := by decide +kernel
set_option maxRecDepth 20000 in
theorem ggX6_fault_X6_faultOf : GoodIn wsX6_fault wsX6_faultOf := goodIn_r _ [5, 6, 7, 8, 9, 10, 11, 12, 4, 13, 14, 15, 16, 17, 18, 19, 20, 21, 22, 23, 24, 25, 26, 27, 28, 29, 30, 31, 32, 33, 34, 35, 36, 37, 38, 39, 40, 41, 42, 43, 44, 45, 46, 47] (by decide +kernel) (by decide +kernel)
set_option maxRecDepth 20000 in
theorem gX6_fault_X6_faultOf : GoodIn wsX6_fault (wsV RX6 68 RX6 yX6_faultOf wsX6_faultOf) := goodIn_app (goodIn_of _ (by decide +kernel)) ggX6_fault_X6_faultOf
theorem dX6_fault_0 : decode cX6_fault 0 = .ok (.aload_n 0, 1) := by decide +kernel
theorem dX6_fault_1 : decode cX6_fault 1 = .ok (.invokevirtual 68, 3) := by decide +kernel
theorem dX6_fault_4 : decode cX6_fault 4 = .ok (.ireturn, 1) := by decide +kernel
set_option maxRecDepth 20000 in
theorem ggX6_isBeing_X6_in : GoodIn wsX6_isBeing wsX6_in := goodIn_r _ [5] (by decide +kernel) (by decide +kernel)
set_option maxRecDepth 20000 in
theorem gX6_isBeing_X6_in : GoodIn wsX6_isBeing (va_wsS RX6 43 yX6_in wsX6_in) := goodIn_app (goodIn_of _ (by decide +kernel)) ggX6_isBeing_X6_in
theorem dX6_isBeing_0 : decode cX6_isBeing 0 = .ok (.iload_n 1, 1) := by decide +kernel
theorem dX6_isBeing_1 : decode cX6_isBeing 1 = .ok (.i2l, 1) := by decide +kernel
theorem dX6_isBeing_2 : decode cX6_isBeing 2 = .ok (.lconst 0, 1) := by decide +kernel
theorem dX6_isBeing_3 : decode cX6_isBeing 3 = .ok (.aload_n 0, 1) := by decide +kernel
theorem dX6_isBeing_4 : decode cX6_isBeing 4 = .ok (.getfield 72, 3) := by decide +kernel
theorem dX6_isBeing_7 : decode cX6_isBeing 7 = .ok (.iconst 1, 1) := by decide +kernel
theorem dX6_isBeing_8 : decode cX6_isBeing 8 = .ok (.isub, 1) := by decide +kernel
theorem dX6_isBeing_9 : decode cX6_isBeing 9 = .ok (.i2l, 1) := by decide +kernel
theorem dX6_isBeing_10 : decode cX6_isBeing 10 = .ok (.invokestatic 43, 3) := by decide +kernel
theorem dX6_isBeing_13 : decode cX6_isBeing 13 = .ok (.ireturn, 1) := by decide +kernel
set_option maxRecDepth 20000 in
theorem ggX6_being_X6_in : GoodIn wsX6_being wsX6_in := goodIn_r _ [10] (by decide +kernel) (by decide +kernel)
set_option maxRecDepth 20000 in
theorem gX6_being_X6_in : GoodIn wsX6_being (va_wsS RX6 43 yX6_in wsX6_in) := goodIn_app (goodIn_of _ (by decide +kernel)) ggX6_being_X6_in
theorem dX6_being_0 : decode cX6_being 0 = .ok (.iload_n 1, 1) := by decide +kernel
theorem dX6_being_1 : decode cX6_being 1 = .ok (.i2l, 1) := by decide +kernel
theorem dX6_being_2 : decode cX6_being 2 = .ok (.lconst 0, 1) := by decide +kernel
theorem dX6_being_3 : decode cX6_being 3 = .ok (.ldc2_w 50, 3) := by decide +kernel
theorem dX6_being_6 : decode cX6_being 6 = .ok (.invokestatic 43, 3) := by decide +kernel
theorem dX6_being_9 : decode cX6_being 9 = .ok (.ifCond .eq 40, 3) := by decide +kernel
theorem dX6_being_12 : decode cX6_being 12 = .ok (.iload_n 2, 1) := by decide +kernel
theorem dX6_being_13 : decode cX6_being 13 = .ok (.i2l, 1) := by decide +kernel
theorem dX6_being_14 : decode cX6_being 14 = .ok (.lconst 1, 1) := by decide +kernel
theorem dX6_being_15 : decode cX6_being 15 = .ok (.ldc2_w 75, 3) := by decide +kernel
theorem dX6_being_18 : decode cX6_being 18 = .ok (.invokestatic 43, 3) := by decide +kernel
theorem dX6_being_21 : decode cX6_being 21 = .ok (.ifCond .eq 28, 3) := by decide +kernel
theorem dX6_being_24 : decode cX6_being 24 = .ok (.iload_n 3, 1) := by decide +kernel
theorem dX6_being_25 : decode cX6_being 25 = .ok (.i2l, 1) := by decide +kernel
theorem dX6_being_26 : decode cX6_being 26 = .ok (.lconst 0, 1) := by decide +kernel
theorem dX6_being_27 : decode cX6_being 27 = .ok (.ldc2_w 77, 3) := by decide +kernel
theorem dX6_being_30 : decode cX6_being 30 = .ok (.invokestatic 43, 3) := by decide +kernel
theorem dX6_being_33 : decode cX6_being 33 = .ok (.ifCond .eq 16, 3) := by decide +kernel
theorem dX6_being_36 : decode cX6_being 36 = .ok (.iload 4, 2) := by decide +kernel
theorem dX6_being_38 : decode cX6_being 38 = .ok (.i2l, 1) := by decide +kernel
theorem dX6_being_39 : decode cX6_being 39 = .ok (.lconst 0, 1) := by decide +kernel
theorem dX6_being_40 : decode cX6_being 40 = .ok (.ldc2_w 79, 3) := by decide +kernel
theorem dX6_being_43 : decode cX6_being 43 = .ok (.invokestatic 43, 3) := by decide +kernel
theorem dX6_being_46 : decode cX6_being 46 = .ok (.ifCond .ne 6, 3) := by decide +kernel
theorem dX6_being_49 : decode cX6_being 49 = .ok (.bipush (-102), 2) := by decide +kernel
theorem dX6_being_51 : decode cX6_being 51 = .ok (.ireturn, 1) := by decide +kernel
theorem dX6_being_52 : decode cX6_being 52 = .ok (.aload_n 0, 1) := by decide +kernel
theorem dX6_being_53 : decode cX6_being 53 = .ok (.getfield 72, 3) := by decide +kernel
theorem dX6_being_56 : decode cX6_being 56 = .ok (.iconst 5, 1) := by decide +kernel
theorem dX6_being_57 : decode cX6_being 57 = .ok (.if_icmp .ne 6, 3) := by decide +kernel
theorem dX6_being_60 : decode cX6_being 60 = .ok (.bipush (-104), 2) := by decide +kernel
theorem dX6_being_62 : decode cX6_being 62 = .ok (.ireturn, 1) := by decide +kernel
theorem dX6_being_63 : decode cX6_being 63 = .ok (.aload_n 0, 1) := by decide +kernel
theorem dX6_being_64 : decode cX6_being 64 = .ok (.getfield 16, 3) := by decide +kernel
theorem dX6_being_67 : decode cX6_being 67 = .ok (.iconst 4, 1) := by decide +kernel
theorem dX6_being_68 : decode cX6_being 68 = .ok (.aload_n 0, 1) := by decide +kernel
theorem dX6_being_69 : decode cX6_being 69 = .ok (.getfield 72, 3) := by decide +kernel
theorem dX6_being_72 : decode cX6_being 72 = .ok (.imul, 1) := by decide +kernel
theorem dX6_being_73 : decode cX6_being 73 = .ok (.iload_n 1, 1) := by decide +kernel
theorem dX6_being_74 : decode cX6_being 74 = .ok (.iastore, 1) := by decide +kernel
theorem dX6_being_75 : decode cX6_being 75 = .ok (.aload_n 0, 1) := by decide +kernel
theorem dX6_being_76 : decode cX6_being 76 = .ok (.getfield 16, 3) := by decide +kernel
theorem dX6_being_79 : decode cX6_being 79 = .ok (.iconst 4, 1) := by decide +kernel
theorem dX6_being_80 : decode cX6_being 80 = .ok (.aload_n 0, 1) := by decide +kernel
theorem dX6_being_81 : decode cX6_being 81 = .ok (.getfield 72, 3) := by decide +kernel
theorem dX6_being_84 : decode cX6_being 84 = .ok (.imul, 1) := by decide +kernel
theorem dX6_being_85 : decode cX6_being 85 = .ok (.iconst 1, 1) := by decide +kernel
theorem dX6_being_86 : decode cX6_being 86 = .ok (.iadd, 1) := by decide +kernel
theorem dX6_being_87 : decode cX6_being 87 = .ok (.iload_n 2, 1) := by decide +kernel
theorem dX6_being_88 : decode cX6_being 88 = .ok (.iastore, 1) := by decide +kernel
theorem dX6_being_89 : decode cX6_being 89 = .ok (.aload_n 0, 1) := by decide +kernel
theorem dX6_being_90 : decode cX6_being 90 = .ok (.getfield 16, 3) := by decide +kernel
theorem dX6_being_93 : decode cX6_being 93 = .ok (.iconst 4, 1) := by decide +kernel
theorem dX6_being_94 : decode cX6_being 94 = .ok (.aload_n 0, 1) := by decide +kernel
theorem dX6_being_95 : decode cX6_being 95 = .ok (.getfield 72, 3) := by decide +kernel
theorem dX6_being_98 : decode cX6_being 98 = .ok (.imul, 1) := by decide +kernel
theorem dX6_being_99 : decode cX6_being 99 = .ok (.iconst 2, 1) := by decide +kernel
theorem dX6_being_100 : decode cX6_being 100 = .ok (.iadd, 1) := by decide +kernel
theorem dX6_being_101 : decode cX6_being 101 = .ok (.iload_n 3, 1) := by decide +kernel
theorem dX6_being_102 : decode cX6_being 102 = .ok (.iastore, 1) := by decide +kernel
theorem dX6_being_103 : decode cX6_being 103 = .ok (.aload_n 0, 1) := by decide +kernel
theorem dX6_being_104 : decode cX6_being 104 = .ok (.getfield 16, 3) := by decide +kernel
theorem dX6_being_107 : decode cX6_being 107 = .ok (.iconst 4, 1) := by decide +kernel
theorem dX6_being_108 : decode cX6_being 108 = .ok (.aload_n 0, 1) := by decide +kernel
theorem dX6_being_109 : decode cX6_being 109 = .ok (.getfield 72, 3) := by decide +kernel
theorem dX6_being_112 : decode cX6_being 112 = .ok (.imul, 1) := by decide +kernel
theorem dX6_being_113 : decode cX6_being 113 = .ok (.iconst 3, 1) := by decide +kernel
theorem dX6_being_114 : decode cX6_being 114 = .ok (.iadd, 1) := by decide +kernel
theorem dX6_being_115 : decode cX6_being 115 = .ok (.iload 4, 2) := by decide +kernel
theorem dX6_being_117 : decode cX6_being 117 = .ok (.iastore, 1) := by decide +kernel
theorem dX6_being_118 : decode cX6_being 118 = .ok (.aload_n 0, 1) := by decide +kernel
theorem dX6_being_119 : decode cX6_being 119 = .ok (.dup, 1) := by decide +kernel
theorem dX6_being_120 : decode cX6_being 120 = .ok (.getfield 72, 3) := by decide +kernel
theorem dX6_being_123 : decode cX6_being 123 = .ok (.iconst 1, 1) := by decide +kernel
theorem dX6_being_124 : decode cX6_being 124 = .ok (.iadd, 1) := by decide +kernel
theorem dX6_being_125 : decode cX6_being 125 = .ok (.putfield 72, 3) := by decide +kernel
theorem dX6_being_128 : decode cX6_being 128 = .ok (.aload_n 0, 1) := by decide +kernel
theorem dX6_being_129 : decode cX6_being 129 = .ok (.getfield 72, 3) := by decide +kernel
theorem dX6_being_132 : decode cX6_being 132 = .ok (.iconst 1, 1) := by decide +kernel
theorem dX6_being_133 : decode cX6_being 133 = .ok (.isub, 1) := by decide +kernel
theorem dX6_being_134 : decode cX6_being 134 = .ok (.ireturn, 1) := by decide +kernel
theorem dX6_unit_0 : decode cX6_unit 0 = .ok (.iconst 1, 1) := by decide +kernel
theorem dX6_unit_1 : decode cX6_unit 1 = .ok (.istore_n 1, 1) := by decide +kernel
theorem dX6_unit_2 : decode cX6_unit 2 = .ok (.iconst 0, 1) := by decide +kernel
theorem dX6_unit_3 : decode cX6_unit 3 = .ok (.istore_n 2, 1) := by decide +kernel
theorem dX6_unit_4 : decode cX6_unit 4 = .ok (.iload_n 2, 1) := by decide +kernel
theorem dX6_unit_5 : decode cX6_unit 5 = .ok (.iload_n 0, 1) := by decide +kernel
theorem dX6_unit_6 : decode cX6_unit 6 = .ok (.if_icmp .ge 14, 3) := by decide +kernel
theorem dX6_unit_9 : decode cX6_unit 9 = .ok (.iload_n 1, 1) := by decide +kernel
theorem dX6_unit_10 : decode cX6_unit 10 = .ok (.bipush 6, 2) := by decide +kernel
theorem dX6_unit_12 : decode cX6_unit 12 = .ok (.imul, 1) := by decide +kernel
theorem dX6_unit_13 : decode cX6_unit 13 = .ok (.istore_n 1, 1) := by decide +kernel
theorem dX6_unit_14 : decode cX6_unit 14 = .ok (.iinc 2 1, 3) := by decide +kernel
theorem dX6_unit_17 : decode cX6_unit 17 = .ok (.goto (-13), 3) := by decide +kernel
theorem dX6_unit_20 : decode cX6_unit 20 = .ok (.iload_n 1, 1) := by decide +kernel
theorem dX6_unit_21 : decode cX6_unit 21 = .ok (.ireturn, 1) := by decide +kernel
set_option maxRecDepth 20000 in
theorem ggX6_holder_X6_unit : GoodIn wsX6_holder wsX6_unit := goodIn_r _ [4] (by decide +kernel) (by decide +kernel)
set_option maxRecDepth 20000 in
theorem gX6_holder_X6_unit : GoodIn wsX6_holder (va_wsS RX6 81 yX6_unit wsX6_unit) := goodIn_app (goodIn_of _ (by decide +kernel)) ggX6_holder_X6_unit
theorem dX6_holder_0 : decode cX6_holder 0 = .ok (.iload_n 0, 1) := by decide +kernel
theorem dX6_holder_1 : decode cX6_holder 1 = .ok (.iload_n 1, 1) := by decide +kernel
theorem dX6_holder_2 : decode cX6_holder 2 = .ok (.invokestatic 81, 3) := by decide +kernel
theorem dX6_holder_5 : decode cX6_holder 5 = .ok (.idiv, 1) := by decide +kernel
theorem dX6_holder_6 : decode cX6_holder 6 = .ok (.bipush 6, 2) := by decide +kernel
theorem dX6_holder_8 : decode cX6_holder 8 = .ok (.irem, 1) := by decide +kernel
theorem dX6_holder_9 : decode cX6_holder 9 = .ok (.iconst 1, 1) := by decide +kernel
theorem dX6_holder_10 : decode cX6_holder 10 = .ok (.isub, 1) := by decide +kernel
theorem dX6_holder_11 : decode cX6_holder 11 = .ok (.ireturn, 1) := by decide +kernel
set_option maxRecDepth 20000 in
theorem ggX6_moved_X6_holder : GoodIn wsX6_moved wsX6_holder := goodIn_r _ [4, 5, 6, 3, 7] (by decide +kernel) (by decide +kernel)
set_option maxRecDepth 20000 in
theorem gX6_moved_X6_holder : GoodIn wsX6_moved (va_wsS RX6 85 yX6_holder wsX6_holder) := goodIn_app (goodIn_of _ (by decide +kernel)) ggX6_moved_X6_holder
set_option maxRecDepth 20000 in
theorem ggX6_moved_X6_unit : GoodIn wsX6_moved wsX6_unit := goodIn_r _ [7] (by decide +kernel) (by decide +kernel)
set_option maxRecDepth 20000 in
theorem gX6_moved_X6_unit : GoodIn wsX6_moved (va_wsS RX6 81 yX6_unit wsX6_unit) := goodIn_app (goodIn_of _ (by decide +kernel)) ggX6_moved_X6_unit
theorem dX6_moved_0 : decode cX6_moved 0 = .ok (.iload_n 0, 1) := by decide +kernel
theorem dX6_moved_1 : decode cX6_moved 1 = .ok (.iload_n 2, 1) := by decide +kernel
theorem dX6_moved_2 : decode cX6_moved 2 = .ok (.iload_n 0, 1) := by decide +kernel
theorem dX6_moved_3 : decode cX6_moved 3 = .ok (.iload_n 1, 1) := by decide +kernel
theorem dX6_moved_4 : decode cX6_moved 4 = .ok (.invokestatic 85, 3) := by decide +kernel
theorem dX6_moved_7 : decode cX6_moved 7 = .ok (.isub, 1) := by decide +kernel
theorem dX6_moved_8 : decode cX6_moved 8 = .ok (.iload_n 1, 1) := by decide +kernel
theorem dX6_moved_9 : decode cX6_moved 9 = .ok (.invokestatic 81, 3) := by decide +kernel
theorem dX6_moved_12 : decode cX6_moved 12 = .ok (.imul, 1) := by decide +kernel
theorem dX6_moved_13 : decode cX6_moved 13 = .ok (.iadd, 1) := by decide +kernel
theorem dX6_moved_14 : decode cX6_moved 14 = .ok (.ireturn, 1) := by decide +kernel
set_option maxRecDepth 20000 in
theorem ggX6_filled_X6_holder : GoodIn wsX6_filled wsX6_holder := goodIn_r _ [6, 7, 8, 5, 9] (by decide +kernel) (by decide +kernel)
set_option maxRecDepth 20000 in
theorem gX6_filled_X6_holder : GoodIn wsX6_filled (va_wsS RX6 85 yX6_holder wsX6_holder) := goodIn_app (goodIn_of _ (by decide +kernel)) ggX6_filled_X6_holder
theorem dX6_filled_0 : decode cX6_filled 0 = .ok (.iconst 0, 1) := by decide +kernel
theorem dX6_filled_1 : decode cX6_filled 1 = .ok (.istore_n 3, 1) := by decide +kernel
theorem dX6_filled_2 : decode cX6_filled 2 = .ok (.iconst 0, 1) := by decide +kernel
theorem dX6_filled_3 : decode cX6_filled 3 = .ok (.istore 4, 2) := by decide +kernel
theorem dX6_filled_5 : decode cX6_filled 5 = .ok (.iload 4, 2) := by decide +kernel
theorem dX6_filled_7 : decode cX6_filled 7 = .ok (.aload_n 0, 1) := by decide +kernel
theorem dX6_filled_8 : decode cX6_filled 8 = .ok (.getfield 72, 3) := by decide +kernel
theorem dX6_filled_11 : decode cX6_filled 11 = .ok (.if_icmp .ge 37, 3) := by decide +kernel
theorem dX6_filled_14 : decode cX6_filled 14 = .ok (.iload_n 3, 1) := by decide +kernel
theorem dX6_filled_15 : decode cX6_filled 15 = .ok (.iload_n 1, 1) := by decide +kernel
theorem dX6_filled_16 : decode cX6_filled 16 = .ok (.iload 4, 2) := by decide +kernel
theorem dX6_filled_18 : decode cX6_filled 18 = .ok (.invokestatic 85, 3) := by decide +kernel
theorem dX6_filled_21 : decode cX6_filled 21 = .ok (.iload_n 2, 1) := by decide +kernel
theorem dX6_filled_22 : decode cX6_filled 22 = .ok (.if_icmp .ne 17, 3) := by decide +kernel
theorem dX6_filled_25 : decode cX6_filled 25 = .ok (.aload_n 0, 1) := by decide +kernel
theorem dX6_filled_26 : decode cX6_filled 26 = .ok (.getfield 16, 3) := by decide +kernel
theorem dX6_filled_29 : decode cX6_filled 29 = .ok (.iconst 4, 1) := by decide +kernel
theorem dX6_filled_30 : decode cX6_filled 30 = .ok (.iload 4, 2) := by decide +kernel
theorem dX6_filled_32 : decode cX6_filled 32 = .ok (.imul, 1) := by decide +kernel
theorem dX6_filled_33 : decode cX6_filled 33 = .ok (.iconst 1, 1) := by decide +kernel
theorem dX6_filled_34 : decode cX6_filled 34 = .ok (.iadd, 1) := by decide +kernel
theorem dX6_filled_35 : decode cX6_filled 35 = .ok (.iaload, 1) := by decide +kernel
theorem dX6_filled_36 : decode cX6_filled 36 = .ok (.goto 4, 3) := by decide +kernel
theorem dX6_filled_39 : decode cX6_filled 39 = .ok (.iconst 0, 1) := by decide +kernel
theorem dX6_filled_40 : decode cX6_filled 40 = .ok (.iadd, 1) := by decide +kernel
theorem dX6_filled_41 : decode cX6_filled 41 = .ok (.istore_n 3, 1) := by decide +kernel
theorem dX6_filled_42 : decode cX6_filled 42 = .ok (.iinc 4 1, 3) := by decide +kernel
theorem dX6_filled_45 : decode cX6_filled 45 = .ok (.goto (-40), 3) := by decide +kernel
theorem dX6_filled_48 : decode cX6_filled 48 = .ok (.iload_n 3, 1) := by decide +kernel
theorem dX6_filled_49 : decode cX6_filled 49 = .ok (.ireturn, 1) := by decide +kernel
set_option maxRecDepth 20000 in
theorem ggX6_swallowed_X6_filled : GoodIn wsX6_swallowed wsX6_filled := goodIn_r _ [6, 7, 1, 8, 9, 5, 10, 11, 12, 13, 17, 18, 19, 20, 21, 22, 23, 24, 25, 26, 27, 28, 29, 30, 31, 32, 33, 34, 35, 36, 37, 38, 39, 40] (by decide +kernel) (by decide +kernel)
set_option maxRecDepth 20000 in
theorem gX6_swallowed_X6_filled : GoodIn wsX6_swallowed (wsV RX6 89 RX6 yX6_filled wsX6_filled) := goodIn_app (goodIn_of _ (by decide +kernel)) ggX6_swallowed_X6_filled
set_option maxRecDepth 20000 in
theorem ggX6_swallowed_X6_holder : GoodIn wsX6_swallowed wsX6_holder := goodIn_r _ [10, 11, 12, 5, 13] (by decide +kernel) (by decide +kernel)
set_option maxRecDepth 20000 in
theorem gX6_swallowed_X6_holder : GoodIn wsX6_swallowed (va_wsS RX6 85 yX6_holder wsX6_holder) := goodIn_app (goodIn_of _ (by decide +kernel)) ggX6_swallowed_X6_holder
set_option maxRecDepth 20000 in
theorem ggX6_swallowed_X6_moved : GoodIn wsX6_swallowed wsX6_moved := goodIn_r _ [16, 8, 9, 5, 10, 11, 12, 13] (by decide +kernel) (by decide +kernel)
set_option maxRecDepth 20000 in
theorem gX6_swallowed_X6_moved : GoodIn wsX6_swallowed (va_wsS RX6 92 yX6_moved wsX6_moved) := goodIn_app (goodIn_of _ (by decide +kernel)) ggX6_swallowed_X6_moved
theorem dX6_swallowed_0 : decode cX6_swallowed 0 = .ok (.aload_n 0, 1) := by decide +kernel
theorem dX6_swallowed_1 : decode cX6_swallowed 1 = .ok (.getfield 16, 3) := by decide +kernel
theorem dX6_swallowed_4 : decode cX6_swallowed 4 = .ok (.iconst 4, 1) := by decide +kernel
theorem dX6_swallowed_5 : decode cX6_swallowed 5 = .ok (.iload_n 2, 1) := by decide +kernel
theorem dX6_swallowed_6 : decode cX6_swallowed 6 = .ok (.imul, 1) := by decide +kernel
theorem dX6_swallowed_7 : decode cX6_swallowed 7 = .ok (.iaload, 1) := by decide +kernel
theorem dX6_swallowed_8 : decode cX6_swallowed 8 = .ok (.istore 4, 2) := by decide +kernel
theorem dX6_swallowed_10 : decode cX6_swallowed 10 = .ok (.aload_n 0, 1) := by decide +kernel
theorem dX6_swallowed_11 : decode cX6_swallowed 11 = .ok (.iload_n 1, 1) := by decide +kernel
theorem dX6_swallowed_12 : decode cX6_swallowed 12 = .ok (.iload_n 3, 1) := by decide +kernel
theorem dX6_swallowed_13 : decode cX6_swallowed 13 = .ok (.invokevirtual 89, 3) := by decide +kernel
theorem dX6_swallowed_16 : decode cX6_swallowed 16 = .ok (.istore 5, 2) := by decide +kernel
theorem dX6_swallowed_18 : decode cX6_swallowed 18 = .ok (.iload 4, 2) := by decide +kernel
theorem dX6_swallowed_20 : decode cX6_swallowed 20 = .ok (.ifCond .le 50, 3) := by decide +kernel
theorem dX6_swallowed_23 : decode cX6_swallowed 23 = .ok (.iload_n 2, 1) := by decide +kernel
theorem dX6_swallowed_24 : decode cX6_swallowed 24 = .ok (.iload_n 3, 1) := by decide +kernel
theorem dX6_swallowed_25 : decode cX6_swallowed 25 = .ok (.if_icmp .eq 45, 3) := by decide +kernel
theorem dX6_swallowed_28 : decode cX6_swallowed 28 = .ok (.aload_n 0, 1) := by decide +kernel
theorem dX6_swallowed_29 : decode cX6_swallowed 29 = .ok (.getfield 16, 3) := by decide +kernel
theorem dX6_swallowed_32 : decode cX6_swallowed 32 = .ok (.iconst 4, 1) := by decide +kernel
theorem dX6_swallowed_33 : decode cX6_swallowed 33 = .ok (.iload_n 2, 1) := by decide +kernel
theorem dX6_swallowed_34 : decode cX6_swallowed 34 = .ok (.imul, 1) := by decide +kernel
theorem dX6_swallowed_35 : decode cX6_swallowed 35 = .ok (.iconst 3, 1) := by decide +kernel
theorem dX6_swallowed_36 : decode cX6_swallowed 36 = .ok (.iadd, 1) := by decide +kernel
theorem dX6_swallowed_37 : decode cX6_swallowed 37 = .ok (.iaload, 1) := by decide +kernel
theorem dX6_swallowed_38 : decode cX6_swallowed 38 = .ok (.aload_n 0, 1) := by decide +kernel
theorem dX6_swallowed_39 : decode cX6_swallowed 39 = .ok (.getfield 16, 3) := by decide +kernel
theorem dX6_swallowed_42 : decode cX6_swallowed 42 = .ok (.iconst 4, 1) := by decide +kernel
theorem dX6_swallowed_43 : decode cX6_swallowed 43 = .ok (.iload_n 3, 1) := by decide +kernel
theorem dX6_swallowed_44 : decode cX6_swallowed 44 = .ok (.imul, 1) := by decide +kernel
theorem dX6_swallowed_45 : decode cX6_swallowed 45 = .ok (.iaload, 1) := by decide +kernel
theorem dX6_swallowed_46 : decode cX6_swallowed 46 = .ok (.ishr, 1) := by decide +kernel
theorem dX6_swallowed_47 : decode cX6_swallowed 47 = .ok (.iconst 1, 1) := by decide +kernel
theorem dX6_swallowed_48 : decode cX6_swallowed 48 = .ok (.iand, 1) := by decide +kernel
theorem dX6_swallowed_49 : decode cX6_swallowed 49 = .ok (.iconst 1, 1) := by decide +kernel
theorem dX6_swallowed_50 : decode cX6_swallowed 50 = .ok (.if_icmp .ne 20, 3) := by decide +kernel
theorem dX6_swallowed_53 : decode cX6_swallowed 53 = .ok (.iload_n 1, 1) := by decide +kernel
theorem dX6_swallowed_54 : decode cX6_swallowed 54 = .ok (.iload_n 2, 1) := by decide +kernel
theorem dX6_swallowed_55 : decode cX6_swallowed 55 = .ok (.invokestatic 85, 3) := by decide +kernel
theorem dX6_swallowed_58 : decode cX6_swallowed 58 = .ok (.iload_n 1, 1) := by decide +kernel
theorem dX6_swallowed_59 : decode cX6_swallowed 59 = .ok (.iload_n 3, 1) := by decide +kernel
theorem dX6_swallowed_60 : decode cX6_swallowed 60 = .ok (.invokestatic 85, 3) := by decide +kernel
theorem dX6_swallowed_63 : decode cX6_swallowed 63 = .ok (.if_icmp .ne 7, 3) := by decide +kernel
theorem dX6_swallowed_66 : decode cX6_swallowed 66 = .ok (.iconst 1, 1) := by decide +kernel
theorem dX6_swallowed_67 : decode cX6_swallowed 67 = .ok (.goto 4, 3) := by decide +kernel
theorem dX6_swallowed_70 : decode cX6_swallowed 70 = .ok (.iconst 0, 1) := by decide +kernel
theorem dX6_swallowed_71 : decode cX6_swallowed 71 = .ok (.istore 6, 2) := by decide +kernel
theorem dX6_swallowed_73 : decode cX6_swallowed 73 = .ok (.iload 6, 2) := by decide +kernel
theorem dX6_swallowed_75 : decode cX6_swallowed 75 = .ok (.ifCond .eq 57, 3) := by decide +kernel
theorem dX6_swallowed_78 : decode cX6_swallowed 78 = .ok (.aload_n 0, 1) := by decide +kernel
theorem dX6_swallowed_79 : decode cX6_swallowed 79 = .ok (.iload_n 1, 1) := by decide +kernel
theorem dX6_swallowed_80 : decode cX6_swallowed 80 = .ok (.iload_n 2, 1) := by decide +kernel
theorem dX6_swallowed_81 : decode cX6_swallowed 81 = .ok (.invokevirtual 89, 3) := by decide +kernel
theorem dX6_swallowed_84 : decode cX6_swallowed 84 = .ok (.aload_n 0, 1) := by decide +kernel
theorem dX6_swallowed_85 : decode cX6_swallowed 85 = .ok (.getfield 16, 3) := by decide +kernel
theorem dX6_swallowed_88 : decode cX6_swallowed 88 = .ok (.iconst 4, 1) := by decide +kernel
theorem dX6_swallowed_89 : decode cX6_swallowed 89 = .ok (.iload_n 3, 1) := by decide +kernel
theorem dX6_swallowed_90 : decode cX6_swallowed 90 = .ok (.imul, 1) := by decide +kernel
theorem dX6_swallowed_91 : decode cX6_swallowed 91 = .ok (.iconst 1, 1) := by decide +kernel
theorem dX6_swallowed_92 : decode cX6_swallowed 92 = .ok (.iadd, 1) := by decide +kernel
theorem dX6_swallowed_93 : decode cX6_swallowed 93 = .ok (.iaload, 1) := by decide +kernel
theorem dX6_swallowed_94 : decode cX6_swallowed 94 = .ok (.iadd, 1) := by decide +kernel
theorem dX6_swallowed_95 : decode cX6_swallowed 95 = .ok (.aload_n 0, 1) := by decide +kernel
theorem dX6_swallowed_96 : decode cX6_swallowed 96 = .ok (.getfield 16, 3) := by decide +kernel
theorem dX6_swallowed_99 : decode cX6_swallowed 99 = .ok (.iconst 4, 1) := by decide +kernel
theorem dX6_swallowed_100 : decode cX6_swallowed 100 = .ok (.iload_n 2, 1) := by decide +kernel
theorem dX6_swallowed_101 : decode cX6_swallowed 101 = .ok (.imul, 1) := by decide +kernel
theorem dX6_swallowed_102 : decode cX6_swallowed 102 = .ok (.iconst 2, 1) := by decide +kernel
theorem dX6_swallowed_103 : decode cX6_swallowed 103 = .ok (.iadd, 1) := by decide +kernel
theorem dX6_swallowed_104 : decode cX6_swallowed 104 = .ok (.iaload, 1) := by decide +kernel
theorem dX6_swallowed_105 : decode cX6_swallowed 105 = .ok (.if_icmp .gt 27, 3) := by decide +kernel
theorem dX6_swallowed_108 : decode cX6_swallowed 108 = .ok (.iload 5, 2) := by decide +kernel
theorem dX6_swallowed_110 : decode cX6_swallowed 110 = .ok (.aload_n 0, 1) := by decide +kernel
theorem dX6_swallowed_111 : decode cX6_swallowed 111 = .ok (.getfield 16, 3) := by decide +kernel
theorem dX6_swallowed_114 : decode cX6_swallowed 114 = .ok (.iconst 4, 1) := by decide +kernel
theorem dX6_swallowed_115 : decode cX6_swallowed 115 = .ok (.iload_n 3, 1) := by decide +kernel
theorem dX6_swallowed_116 : decode cX6_swallowed 116 = .ok (.imul, 1) := by decide +kernel
theorem dX6_swallowed_117 : decode cX6_swallowed 117 = .ok (.iconst 2, 1) := by decide +kernel
theorem dX6_swallowed_118 : decode cX6_swallowed 118 = .ok (.iadd, 1) := by decide +kernel
theorem dX6_swallowed_119 : decode cX6_swallowed 119 = .ok (.iaload, 1) := by decide +kernel
theorem dX6_swallowed_120 : decode cX6_swallowed 120 = .ok (.if_icmp .ne 8, 3) := by decide +kernel
theorem dX6_swallowed_123 : decode cX6_swallowed 123 = .ok (.iload 5, 2) := by decide +kernel
theorem dX6_swallowed_125 : decode cX6_swallowed 125 = .ok (.ifCond .ne 7, 3) := by decide +kernel
theorem dX6_swallowed_128 : decode cX6_swallowed 128 = .ok (.iconst 1, 1) := by decide +kernel
theorem dX6_swallowed_129 : decode cX6_swallowed 129 = .ok (.goto 4, 3) := by decide +kernel
theorem dX6_swallowed_132 : decode cX6_swallowed 132 = .ok (.iconst 0, 1) := by decide +kernel
theorem dX6_swallowed_133 : decode cX6_swallowed 133 = .ok (.istore 6, 2) := by decide +kernel
theorem dX6_swallowed_135 : decode cX6_swallowed 135 = .ok (.iload 6, 2) := by decide +kernel
theorem dX6_swallowed_137 : decode cX6_swallowed 137 = .ok (.ifCond .eq 12, 3) := by decide +kernel
theorem dX6_swallowed_140 : decode cX6_swallowed 140 = .ok (.iload_n 1, 1) := by decide +kernel
theorem dX6_swallowed_141 : decode cX6_swallowed 141 = .ok (.iload_n 3, 1) := by decide +kernel
theorem dX6_swallowed_142 : decode cX6_swallowed 142 = .ok (.iload_n 2, 1) := by decide +kernel
theorem dX6_swallowed_143 : decode cX6_swallowed 143 = .ok (.invokestatic 92, 3) := by decide +kernel
theorem dX6_swallowed_146 : decode cX6_swallowed 146 = .ok (.goto 4, 3) := by decide +kernel
theorem dX6_swallowed_149 : decode cX6_swallowed 149 = .ok (.iconst (-1), 1) := by decide +kernel
theorem dX6_swallowed_150 : decode cX6_swallowed 150 = .ok (.ireturn, 1) := by decide +kernel
set_option maxRecDepth 20000 in
theorem ggX6_comeOut_X6_holder : GoodIn wsX6_comeOut wsX6_holder := goodIn_r _ [6, 7, 8, 5, 9] (by decide +kernel) (by decide +kernel)
set_option maxRecDepth 20000 in
theorem gX6_comeOut_X6_holder : GoodIn wsX6_comeOut (va_wsS RX6 85 yX6_holder wsX6_holder) := goodIn_app (goodIn_of _ (by decide +kernel)) ggX6_comeOut_X6_holder
set_option maxRecDepth 20000 in
theorem ggX6_comeOut_X6_moved : GoodIn wsX6_comeOut wsX6_moved := goodIn_r _ [12, 3, 4, 5, 6, 7, 8, 9] (by decide +kernel) (by decide +kernel)
set_option maxRecDepth 20000 in
theorem gX6_comeOut_X6_moved : GoodIn wsX6_comeOut (va_wsS RX6 92 yX6_moved wsX6_moved) := goodIn_app (goodIn_of _ (by decide +kernel)) ggX6_comeOut_X6_moved
set_option maxRecDepth 20000 in
theorem ggX6_comeOut_X6_filled : GoodIn wsX6_comeOut wsX6_filled := goodIn_r _ [16, 1, 2, 3, 4, 5, 6, 7, 8, 9, 17, 18, 19, 20, 21, 22, 23, 24, 25, 26, 27, 28, 29, 30, 31, 32, 33, 34, 35, 36, 37, 38, 39, 40] (by decide +kernel) (by decide +kernel)
set_option maxRecDepth 20000 in
theorem gX6_comeOut_X6_filled : GoodIn wsX6_comeOut (wsV RX6 89 RX6 yX6_filled wsX6_filled) := goodIn_app (goodIn_of _ (by decide +kernel)) ggX6_comeOut_X6_filled
theorem dX6_comeOut_0 : decode cX6_comeOut 0 = .ok (.iload_n 1, 1) := by decide +kernel
theorem dX6_comeOut_1 : decode cX6_comeOut 1 = .ok (.iload_n 2, 1) := by decide +kernel
theorem dX6_comeOut_2 : decode cX6_comeOut 2 = .ok (.invokestatic 85, 3) := by decide +kernel
theorem dX6_comeOut_5 : decode cX6_comeOut 5 = .ok (.istore 4, 2) := by decide +kernel
theorem dX6_comeOut_7 : decode cX6_comeOut 7 = .ok (.iload_n 3, 1) := by decide +kernel
theorem dX6_comeOut_8 : decode cX6_comeOut 8 = .ok (.istore 5, 2) := by decide +kernel
theorem dX6_comeOut_10 : decode cX6_comeOut 10 = .ok (.iconst 0, 1) := by decide +kernel
theorem dX6_comeOut_11 : decode cX6_comeOut 11 = .ok (.istore 6, 2) := by decide +kernel
theorem dX6_comeOut_13 : decode cX6_comeOut 13 = .ok (.iload_n 1, 1) := by decide +kernel
theorem dX6_comeOut_14 : decode cX6_comeOut 14 = .ok (.istore 7, 2) := by decide +kernel
theorem dX6_comeOut_16 : decode cX6_comeOut 16 = .ok (.aload_n 0, 1) := by decide +kernel
theorem dX6_comeOut_17 : decode cX6_comeOut 17 = .ok (.getfield 72, 3) := by decide +kernel
theorem dX6_comeOut_20 : decode cX6_comeOut 20 = .ok (.iconst 1, 1) := by decide +kernel
theorem dX6_comeOut_21 : decode cX6_comeOut 21 = .ok (.isub, 1) := by decide +kernel
theorem dX6_comeOut_22 : decode cX6_comeOut 22 = .ok (.istore 8, 2) := by decide +kernel
theorem dX6_comeOut_24 : decode cX6_comeOut 24 = .ok (.iload 8, 2) := by decide +kernel
theorem dX6_comeOut_26 : decode cX6_comeOut 26 = .ok (.ifCond .lt 54, 3) := by decide +kernel
theorem dX6_comeOut_29 : decode cX6_comeOut 29 = .ok (.iload_n 1, 1) := by decide +kernel
theorem dX6_comeOut_30 : decode cX6_comeOut 30 = .ok (.iload 8, 2) := by decide +kernel
theorem dX6_comeOut_32 : decode cX6_comeOut 32 = .ok (.invokestatic 85, 3) := by decide +kernel
theorem dX6_comeOut_35 : decode cX6_comeOut 35 = .ok (.iload_n 2, 1) := by decide +kernel
theorem dX6_comeOut_36 : decode cX6_comeOut 36 = .ok (.if_icmp .ne 38, 3) := by decide +kernel
theorem dX6_comeOut_39 : decode cX6_comeOut 39 = .ok (.iload 5, 2) := by decide +kernel
theorem dX6_comeOut_41 : decode cX6_comeOut 41 = .ok (.ifCond .le 33, 3) := by decide +kernel
theorem dX6_comeOut_44 : decode cX6_comeOut 44 = .ok (.iload 7, 2) := by decide +kernel
theorem dX6_comeOut_46 : decode cX6_comeOut 46 = .ok (.iload 8, 2) := by decide +kernel
theorem dX6_comeOut_48 : decode cX6_comeOut 48 = .ok (.iload 4, 2) := by decide +kernel
theorem dX6_comeOut_50 : decode cX6_comeOut 50 = .ok (.invokestatic 92, 3) := by decide +kernel
theorem dX6_comeOut_53 : decode cX6_comeOut 53 = .ok (.istore 7, 2) := by decide +kernel
theorem dX6_comeOut_55 : decode cX6_comeOut 55 = .ok (.iload 6, 2) := by decide +kernel
theorem dX6_comeOut_57 : decode cX6_comeOut 57 = .ok (.aload_n 0, 1) := by decide +kernel
theorem dX6_comeOut_58 : decode cX6_comeOut 58 = .ok (.getfield 16, 3) := by decide +kernel
theorem dX6_comeOut_61 : decode cX6_comeOut 61 = .ok (.iconst 4, 1) := by decide +kernel
theorem dX6_comeOut_62 : decode cX6_comeOut 62 = .ok (.iload 8, 2) := by decide +kernel
theorem dX6_comeOut_64 : decode cX6_comeOut 64 = .ok (.imul, 1) := by decide +kernel
theorem dX6_comeOut_65 : decode cX6_comeOut 65 = .ok (.iconst 1, 1) := by decide +kernel
theorem dX6_comeOut_66 : decode cX6_comeOut 66 = .ok (.iadd, 1) := by decide +kernel
theorem dX6_comeOut_67 : decode cX6_comeOut 67 = .ok (.iaload, 1) := by decide +kernel
theorem dX6_comeOut_68 : decode cX6_comeOut 68 = .ok (.iadd, 1) := by decide +kernel
theorem dX6_comeOut_69 : decode cX6_comeOut 69 = .ok (.istore 6, 2) := by decide +kernel
theorem dX6_comeOut_71 : decode cX6_comeOut 71 = .ok (.iinc 5 (-1), 3) := by decide +kernel
theorem dX6_comeOut_74 : decode cX6_comeOut 74 = .ok (.iinc 8 (-1), 3) := by decide +kernel
theorem dX6_comeOut_77 : decode cX6_comeOut 77 = .ok (.goto (-53), 3) := by decide +kernel
theorem dX6_comeOut_80 : decode cX6_comeOut 80 = .ok (.iload 4, 2) := by decide +kernel
theorem dX6_comeOut_82 : decode cX6_comeOut 82 = .ok (.iconst (-1), 1) := by decide +kernel
theorem dX6_comeOut_83 : decode cX6_comeOut 83 = .ok (.if_icmp .eq 27, 3) := by decide +kernel
theorem dX6_comeOut_86 : decode cX6_comeOut 86 = .ok (.aload_n 0, 1) := by decide +kernel
theorem dX6_comeOut_87 : decode cX6_comeOut 87 = .ok (.iload_n 1, 1) := by decide +kernel
theorem dX6_comeOut_88 : decode cX6_comeOut 88 = .ok (.iload 4, 2) := by decide +kernel
theorem dX6_comeOut_90 : decode cX6_comeOut 90 = .ok (.invokevirtual 89, 3) := by decide +kernel
theorem dX6_comeOut_93 : decode cX6_comeOut 93 = .ok (.iload 6, 2) := by decide +kernel
theorem dX6_comeOut_95 : decode cX6_comeOut 95 = .ok (.iadd, 1) := by decide +kernel
theorem dX6_comeOut_96 : decode cX6_comeOut 96 = .ok (.aload_n 0, 1) := by decide +kernel
theorem dX6_comeOut_97 : decode cX6_comeOut 97 = .ok (.getfield 16, 3) := by decide +kernel
theorem dX6_comeOut_100 : decode cX6_comeOut 100 = .ok (.iconst 4, 1) := by decide +kernel
theorem dX6_comeOut_101 : decode cX6_comeOut 101 = .ok (.iload 4, 2) := by decide +kernel
theorem dX6_comeOut_103 : decode cX6_comeOut 103 = .ok (.imul, 1) := by decide +kernel
theorem dX6_comeOut_104 : decode cX6_comeOut 104 = .ok (.iconst 2, 1) := by decide +kernel
theorem dX6_comeOut_105 : decode cX6_comeOut 105 = .ok (.iadd, 1) := by decide +kernel
theorem dX6_comeOut_106 : decode cX6_comeOut 106 = .ok (.iaload, 1) := by decide +kernel
theorem dX6_comeOut_107 : decode cX6_comeOut 107 = .ok (.if_icmp .gt 7, 3) := by decide +kernel
theorem dX6_comeOut_110 : decode cX6_comeOut 110 = .ok (.iconst 1, 1) := by decide +kernel
theorem dX6_comeOut_111 : decode cX6_comeOut 111 = .ok (.goto 4, 3) := by decide +kernel
theorem dX6_comeOut_114 : decode cX6_comeOut 114 = .ok (.iconst 0, 1) := by decide +kernel
theorem dX6_comeOut_115 : decode cX6_comeOut 115 = .ok (.istore 8, 2) := by decide +kernel
theorem dX6_comeOut_117 : decode cX6_comeOut 117 = .ok (.iload 6, 2) := by decide +kernel
theorem dX6_comeOut_119 : decode cX6_comeOut 119 = .ok (.ifCond .le 13, 3) := by decide +kernel
theorem dX6_comeOut_122 : decode cX6_comeOut 122 = .ok (.iload 8, 2) := by decide +kernel
theorem dX6_comeOut_124 : decode cX6_comeOut 124 = .ok (.ifCond .eq 8, 3) := by decide +kernel
theorem dX6_comeOut_127 : decode cX6_comeOut 127 = .ok (.iload 7, 2) := by decide +kernel
theorem dX6_comeOut_129 : decode cX6_comeOut 129 = .ok (.goto 4, 3) := by decide +kernel
theorem dX6_comeOut_132 : decode cX6_comeOut 132 = .ok (.iconst (-1), 1) := by decide +kernel
theorem dX6_comeOut_133 : decode cX6_comeOut 133 = .ok (.ireturn, 1) := by decide +kernel
set_option maxRecDepth 20000 in
theorem ggX6_isDeed_X6_in : GoodIn wsX6_isDeed wsX6_in := goodIn_r _ [9] (by decide +kernel) (by decide +kernel)
set_option maxRecDepth 20000 in
theorem gX6_isDeed_X6_in : GoodIn wsX6_isDeed (va_wsS RX6 43 yX6_in wsX6_in) := goodIn_app (goodIn_of _ (by decide +kernel)) ggX6_isDeed_X6_in
set_option maxRecDepth 20000 in
theorem ggX6_isDeed_X6_isBeing : GoodIn wsX6_isDeed wsX6_isBeing := goodIn_r _ [13, 14, 6, 7, 8, 9, 15, 16, 17, 18, 19, 20, 21, 22, 23, 24, 25, 26, 27, 28, 29, 30, 31, 32, 33, 34, 35, 36, 37, 38] (by decide +kernel) (by decide +kernel)
set_option maxRecDepth 20000 in
theorem gX6_isDeed_X6_isBeing : GoodIn wsX6_isDeed (wsV RX6 98 RX6 yX6_isBeing wsX6_isBeing) := goodIn_app (goodIn_of _ (by decide +kernel)) ggX6_isDeed_X6_isBeing
theorem dX6_isDeed_0 : decode cX6_isDeed 0 = .ok (.iload_n 1, 1) := by decide +kernel
theorem dX6_isDeed_1 : decode cX6_isDeed 1 = .ok (.i2l, 1) := by decide +kernel
theorem dX6_isDeed_2 : decode cX6_isDeed 2 = .ok (.lconst 0, 1) := by decide +kernel
theorem dX6_isDeed_3 : decode cX6_isDeed 3 = .ok (.ldc2_w 96, 3) := by decide +kernel
theorem dX6_isDeed_6 : decode cX6_isDeed 6 = .ok (.invokestatic 43, 3) := by decide +kernel
theorem dX6_isDeed_9 : decode cX6_isDeed 9 = .ok (.ifCond .eq 29, 3) := by decide +kernel
theorem dX6_isDeed_12 : decode cX6_isDeed 12 = .ok (.aload_n 0, 1) := by decide +kernel
theorem dX6_isDeed_13 : decode cX6_isDeed 13 = .ok (.iload_n 1, 1) := by decide +kernel
theorem dX6_isDeed_14 : decode cX6_isDeed 14 = .ok (.iconst 5, 1) := by decide +kernel
theorem dX6_isDeed_15 : decode cX6_isDeed 15 = .ok (.idiv, 1) := by decide +kernel
theorem dX6_isDeed_16 : decode cX6_isDeed 16 = .ok (.invokevirtual 98, 3) := by decide +kernel
theorem dX6_isDeed_19 : decode cX6_isDeed 19 = .ok (.ifCond .eq 17, 3) := by decide +kernel
theorem dX6_isDeed_22 : decode cX6_isDeed 22 = .ok (.aload_n 0, 1) := by decide +kernel
theorem dX6_isDeed_23 : decode cX6_isDeed 23 = .ok (.iload_n 1, 1) := by decide +kernel
theorem dX6_isDeed_24 : decode cX6_isDeed 24 = .ok (.iconst 5, 1) := by decide +kernel
theorem dX6_isDeed_25 : decode cX6_isDeed 25 = .ok (.irem, 1) := by decide +kernel
theorem dX6_isDeed_26 : decode cX6_isDeed 26 = .ok (.invokevirtual 98, 3) := by decide +kernel
theorem dX6_isDeed_29 : decode cX6_isDeed 29 = .ok (.ifCond .eq 7, 3) := by decide +kernel
theorem dX6_isDeed_32 : decode cX6_isDeed 32 = .ok (.iconst 1, 1) := by decide +kernel
theorem dX6_isDeed_33 : decode cX6_isDeed 33 = .ok (.goto 4, 3) := by decide +kernel
theorem dX6_isDeed_36 : decode cX6_isDeed 36 = .ok (.iconst 0, 1) := by decide +kernel
theorem dX6_isDeed_37 : decode cX6_isDeed 37 = .ok (.ireturn, 1) := by decide +kernel
theorem dX6_isDeed_38 : decode cX6_isDeed 38 = .ok (.iload_n 1, 1) := by decide +kernel
theorem dX6_isDeed_39 : decode cX6_isDeed 39 = .ok (.i2l, 1) := by decide +kernel
theorem dX6_isDeed_40 : decode cX6_isDeed 40 = .ok (.ldc2_w 101, 3) := by decide +kernel
theorem dX6_isDeed_43 : decode cX6_isDeed 43 = .ok (.ldc2_w 103, 3) := by decide +kernel
theorem dX6_isDeed_46 : decode cX6_isDeed 46 = .ok (.invokestatic 43, 3) := by decide +kernel
theorem dX6_isDeed_49 : decode cX6_isDeed 49 = .ok (.ifCond .ne 17, 3) := by decide +kernel
theorem dX6_isDeed_52 : decode cX6_isDeed 52 = .ok (.iload_n 1, 1) := by decide +kernel
theorem dX6_isDeed_53 : decode cX6_isDeed 53 = .ok (.i2l, 1) := by decide +kernel
theorem dX6_isDeed_54 : decode cX6_isDeed 54 = .ok (.ldc2_w 105, 3) := by decide +kernel
theorem dX6_isDeed_57 : decode cX6_isDeed 57 = .ok (.ldc2_w 107, 3) := by decide +kernel
theorem dX6_isDeed_60 : decode cX6_isDeed 60 = .ok (.invokestatic 43, 3) := by decide +kernel
theorem dX6_isDeed_63 : decode cX6_isDeed 63 = .ok (.ifCond .eq 18, 3) := by decide +kernel
theorem dX6_isDeed_66 : decode cX6_isDeed 66 = .ok (.aload_n 0, 1) := by decide +kernel
theorem dX6_isDeed_67 : decode cX6_isDeed 67 = .ok (.iload_n 1, 1) := by decide +kernel
theorem dX6_isDeed_68 : decode cX6_isDeed 68 = .ok (.bipush 10, 2) := by decide +kernel
theorem dX6_isDeed_70 : decode cX6_isDeed 70 = .ok (.irem, 1) := by decide +kernel
theorem dX6_isDeed_71 : decode cX6_isDeed 71 = .ok (.invokevirtual 98, 3) := by decide +kernel
theorem dX6_isDeed_74 : decode cX6_isDeed 74 = .ok (.ifCond .eq 7, 3) := by decide +kernel
theorem dX6_isDeed_77 : decode cX6_isDeed 77 = .ok (.iconst 1, 1) := by decide +kernel
theorem dX6_isDeed_78 : decode cX6_isDeed 78 = .ok (.goto 4, 3) := by decide +kernel
theorem dX6_isDeed_81 : decode cX6_isDeed 81 = .ok (.iconst 0, 1) := by decide +kernel
theorem dX6_isDeed_82 : decode cX6_isDeed 82 = .ok (.ireturn, 1) := by decide +kernel
set_option maxRecDepth 20000 in
theorem ggX6_done_X6_swallowed : GoodIn wsX6_done wsX6_swallowed := goodIn_r _ [6, 1, 7, 8, 9, 5, 10, 11, 12, 13, 14, 15, 16, 17, 18, 19, 20, 25, 26, 27, 28, 29, 30, 31, 32, 33, 34, 35, 36, 37, 38, 39, 40, 41, 42, 43, 44, 45, 46, 47, 48] (by decide +kernel) (by decide +kernel)
set_option maxRecDepth 20000 in
theorem gX6_done_X6_swallowed : GoodIn wsX6_done (wsV RX6 109 RX6 yX6_swallowed wsX6_swallowed) := goodIn_app (goodIn_of _ (by decide +kernel)) ggX6_done_X6_swallowed
set_option maxRecDepth 20000 in
theorem ggX6_done_X6_comeOut : GoodIn wsX6_done wsX6_comeOut := goodIn_r _ [24, 11, 1, 12, 13, 5, 14, 15, 16, 17, 18, 19, 20, 7, 8, 9, 10, 25, 26, 27, 28, 29, 30, 31, 32, 33, 34, 35, 36, 37, 38, 39, 40, 41, 42, 43, 44, 45, 46, 47, 48] (by decide +kernel) (by decide +kernel)
set_option maxRecDepth 20000 in
theorem gX6_done_X6_comeOut : GoodIn wsX6_done (wsV RX6 112 RX6 yX6_comeOut wsX6_comeOut) := goodIn_app (goodIn_of _ (by decide +kernel)) ggX6_done_X6_comeOut
theorem dX6_done_0 : decode cX6_done 0 = .ok (.iload_n 2, 1) := by decide +kernel
theorem dX6_done_1 : decode cX6_done 1 = .ok (.bipush 25, 2) := by decide +kernel
theorem dX6_done_3 : decode cX6_done 3 = .ok (.if_icmp .ge 15, 3) := by decide +kernel
theorem dX6_done_6 : decode cX6_done 6 = .ok (.aload_n 0, 1) := by decide +kernel
theorem dX6_done_7 : decode cX6_done 7 = .ok (.iload_n 1, 1) := by decide +kernel
theorem dX6_done_8 : decode cX6_done 8 = .ok (.iload_n 2, 1) := by decide +kernel
theorem dX6_done_9 : decode cX6_done 9 = .ok (.iconst 5, 1) := by decide +kernel
theorem dX6_done_10 : decode cX6_done 10 = .ok (.idiv, 1) := by decide +kernel
theorem dX6_done_11 : decode cX6_done 11 = .ok (.iload_n 2, 1) := by decide +kernel
theorem dX6_done_12 : decode cX6_done 12 = .ok (.iconst 5, 1) := by decide +kernel
theorem dX6_done_13 : decode cX6_done 13 = .ok (.irem, 1) := by decide +kernel
theorem dX6_done_14 : decode cX6_done 14 = .ok (.invokevirtual 109, 3) := by decide +kernel
theorem dX6_done_17 : decode cX6_done 17 = .ok (.ireturn, 1) := by decide +kernel
theorem dX6_done_18 : decode cX6_done 18 = .ok (.iload_n 2, 1) := by decide +kernel
theorem dX6_done_19 : decode cX6_done 19 = .ok (.bipush 10, 2) := by decide +kernel
theorem dX6_done_21 : decode cX6_done 21 = .ok (.irem, 1) := by decide +kernel
theorem dX6_done_22 : decode cX6_done 22 = .ok (.istore_n 3, 1) := by decide +kernel
theorem dX6_done_23 : decode cX6_done 23 = .ok (.aload_n 0, 1) := by decide +kernel
theorem dX6_done_24 : decode cX6_done 24 = .ok (.getfield 16, 3) := by decide +kernel
theorem dX6_done_27 : decode cX6_done 27 = .ok (.iconst 4, 1) := by decide +kernel
theorem dX6_done_28 : decode cX6_done 28 = .ok (.iload_n 3, 1) := by decide +kernel
theorem dX6_done_29 : decode cX6_done 29 = .ok (.imul, 1) := by decide +kernel
theorem dX6_done_30 : decode cX6_done 30 = .ok (.iaload, 1) := by decide +kernel
theorem dX6_done_31 : decode cX6_done 31 = .ok (.istore 4, 2) := by decide +kernel
theorem dX6_done_33 : decode cX6_done 33 = .ok (.iload_n 2, 1) := by decide +kernel
theorem dX6_done_34 : decode cX6_done 34 = .ok (.bipush 40, 2) := by decide +kernel
theorem dX6_done_36 : decode cX6_done 36 = .ok (.if_icmp .ge 21, 3) := by decide +kernel
theorem dX6_done_39 : decode cX6_done 39 = .ok (.aload_n 0, 1) := by decide +kernel
theorem dX6_done_40 : decode cX6_done 40 = .ok (.iload_n 1, 1) := by decide +kernel
theorem dX6_done_41 : decode cX6_done 41 = .ok (.iload_n 3, 1) := by decide +kernel
theorem dX6_done_42 : decode cX6_done 42 = .ok (.iload 4, 2) := by decide +kernel
theorem dX6_done_44 : decode cX6_done 44 = .ok (.iconst 3, 1) := by decide +kernel
theorem dX6_done_45 : decode cX6_done 45 = .ok (.if_icmp .ne 7, 3) := by decide +kernel
theorem dX6_done_48 : decode cX6_done 48 = .ok (.iconst 2, 1) := by decide +kernel
theorem dX6_done_49 : decode cX6_done 49 = .ok (.goto 4, 3) := by decide +kernel
theorem dX6_done_52 : decode cX6_done 52 = .ok (.iconst 1, 1) := by decide +kernel
theorem dX6_done_53 : decode cX6_done 53 = .ok (.invokevirtual 112, 3) := by decide +kernel
theorem dX6_done_56 : decode cX6_done 56 = .ok (.ireturn, 1) := by decide +kernel
theorem dX6_done_57 : decode cX6_done 57 = .ok (.iload 4, 2) := by decide +kernel
theorem dX6_done_59 : decode cX6_done 59 = .ok (.iconst 2, 1) := by decide +kernel
theorem dX6_done_60 : decode cX6_done 60 = .ok (.if_icmp .eq 9, 3) := by decide +kernel
theorem dX6_done_63 : decode cX6_done 63 = .ok (.iload 4, 2) := by decide +kernel
theorem dX6_done_65 : decode cX6_done 65 = .ok (.iconst 4, 1) := by decide +kernel
theorem dX6_done_66 : decode cX6_done 66 = .ok (.if_icmp .ne 7, 3) := by decide +kernel
theorem dX6_done_69 : decode cX6_done 69 = .ok (.iconst (-1), 1) := by decide +kernel
theorem dX6_done_70 : decode cX6_done 70 = .ok (.goto 10, 3) := by decide +kernel
theorem dX6_done_73 : decode cX6_done 73 = .ok (.aload_n 0, 1) := by decide +kernel
theorem dX6_done_74 : decode cX6_done 74 = .ok (.iload_n 1, 1) := by decide +kernel
theorem dX6_done_75 : decode cX6_done 75 = .ok (.iload_n 3, 1) := by decide +kernel
theorem dX6_done_76 : decode cX6_done 76 = .ok (.iconst 5, 1) := by decide +kernel
theorem dX6_done_77 : decode cX6_done 77 = .ok (.invokevirtual 112, 3) := by decide +kernel
theorem dX6_done_80 : decode cX6_done 80 = .ok (.ireturn, 1) := by decide +kernel
set_option maxRecDepth 20000 in
theorem ggX6_tale_X6_faultOf : GoodIn wsX6_tale wsX6_faultOf := goodIn_r _ [10, 4, 2, 1, 11, 12, 13, 14, 9, 15, 16, 17, 18, 19, 20, 21, 5, 22, 23, 24, 65, 66, 67, 68, 69, 70, 71, 72, 73, 74, 75, 76, 77, 78, 79, 80, 81, 82, 83, 84, 85, 86, 87, 88] (by decide +kernel) (by decide +kernel)
set_option maxRecDepth 20000 in
theorem gX6_tale_X6_faultOf : GoodIn wsX6_tale (wsV RX6 68 RX6 yX6_faultOf wsX6_faultOf) := goodIn_app (goodIn_of _ (by decide +kernel)) ggX6_tale_X6_faultOf
set_option maxRecDepth 20000 in
theorem ggX6_tale_X6_isDeed : GoodIn wsX6_tale wsX6_isDeed := goodIn_r _ [28, 29, 30, 31, 32, 33, 22, 23, 9, 24, 34, 35, 36, 37, 38, 65, 66, 67, 68, 69, 70, 71, 72, 73, 74, 75, 76, 77, 78, 79, 80, 81, 82, 83, 84, 85, 86, 87, 88] (by decide +kernel) (by decide +kernel)
set_option maxRecDepth 20000 in
theorem gX6_tale_X6_isDeed : GoodIn wsX6_tale (wsV RX6 118 RX6 yX6_isDeed wsX6_isDeed) := goodIn_app (goodIn_of _ (by decide +kernel)) ggX6_tale_X6_isDeed
set_option maxRecDepth 20000 in
theorem ggX6_tale_X6_done : GoodIn wsX6_tale wsX6_done := goodIn_r _ [42, 43, 44, 45, 46, 9, 47, 48, 49, 50, 51, 38, 52, 53, 54, 55, 56, 57, 58, 59, 60, 61, 62, 63, 64, 65, 66, 67, 68, 69, 70, 71, 72, 73, 74, 75, 76, 77, 78, 79, 80, 81, 82, 83, 84, 85, 86, 87, 88] (by decide +kernel) (by decide +kernel)
set_option maxRecDepth 20000 in
theorem gX6_tale_X6_done : GoodIn wsX6_tale (wsV RX6 121 RX6 yX6_done wsX6_done) := goodIn_app (goodIn_of _ (by decide +kernel)) ggX6_tale_X6_done
theorem dX6_tale_0 : decode cX6_tale 0 = .ok (.aload_n 0, 1) := by decide +kernel
theorem dX6_tale_1 : decode cX6_tale 1 = .ok (.invokevirtual 68, 3) := by decide +kernel
theorem dX6_tale_4 : decode cX6_tale 4 = .ok (.aload_n 0, 1) := by decide +kernel
theorem dX6_tale_5 : decode cX6_tale 5 = .ok (.getfield 47, 3) := by decide +kernel
theorem dX6_tale_8 : decode cX6_tale 8 = .ok (.if_icmp .lt 11, 3) := by decide +kernel
theorem dX6_tale_11 : decode cX6_tale 11 = .ok (.aload_n 0, 1) := by decide +kernel
theorem dX6_tale_12 : decode cX6_tale 12 = .ok (.getfield 55, 3) := by decide +kernel
theorem dX6_tale_15 : decode cX6_tale 15 = .ok (.iconst 3, 1) := by decide +kernel
theorem dX6_tale_16 : decode cX6_tale 16 = .ok (.if_icmp .eq 6, 3) := by decide +kernel
theorem dX6_tale_19 : decode cX6_tale 19 = .ok (.bipush (-103), 2) := by decide +kernel
theorem dX6_tale_21 : decode cX6_tale 21 = .ok (.ireturn, 1) := by decide +kernel
theorem dX6_tale_22 : decode cX6_tale 22 = .ok (.aload_n 0, 1) := by decide +kernel
theorem dX6_tale_23 : decode cX6_tale 23 = .ok (.getfield 115, 3) := by decide +kernel
theorem dX6_tale_26 : decode cX6_tale 26 = .ok (.istore_n 1, 1) := by decide +kernel
theorem dX6_tale_27 : decode cX6_tale 27 = .ok (.iconst 0, 1) := by decide +kernel
theorem dX6_tale_28 : decode cX6_tale 28 = .ok (.istore_n 2, 1) := by decide +kernel
theorem dX6_tale_29 : decode cX6_tale 29 = .ok (.iload_n 2, 1) := by decide +kernel
theorem dX6_tale_30 : decode cX6_tale 30 = .ok (.aload_n 0, 1) := by decide +kernel
theorem dX6_tale_31 : decode cX6_tale 31 = .ok (.getfield 58, 3) := by decide +kernel
theorem dX6_tale_34 : decode cX6_tale 34 = .ok (.if_icmp .ge 47, 3) := by decide +kernel
theorem dX6_tale_37 : decode cX6_tale 37 = .ok (.aload_n 0, 1) := by decide +kernel
theorem dX6_tale_38 : decode cX6_tale 38 = .ok (.aload_n 0, 1) := by decide +kernel
theorem dX6_tale_39 : decode cX6_tale 39 = .ok (.getfield 13, 3) := by decide +kernel
theorem dX6_tale_42 : decode cX6_tale 42 = .ok (.iload_n 2, 1) := by decide +kernel
theorem dX6_tale_43 : decode cX6_tale 43 = .ok (.iaload, 1) := by decide +kernel
theorem dX6_tale_44 : decode cX6_tale 44 = .ok (.invokevirtual 118, 3) := by decide +kernel
theorem dX6_tale_47 : decode cX6_tale 47 = .ok (.ifCond .eq 17, 3) := by decide +kernel
theorem dX6_tale_50 : decode cX6_tale 50 = .ok (.aload_n 0, 1) := by decide +kernel
theorem dX6_tale_51 : decode cX6_tale 51 = .ok (.iload_n 1, 1) := by decide +kernel
theorem dX6_tale_52 : decode cX6_tale 52 = .ok (.aload_n 0, 1) := by decide +kernel
theorem dX6_tale_53 : decode cX6_tale 53 = .ok (.getfield 13, 3) := by decide +kernel
theorem dX6_tale_56 : decode cX6_tale 56 = .ok (.iload_n 2, 1) := by decide +kernel
theorem dX6_tale_57 : decode cX6_tale 57 = .ok (.iaload, 1) := by decide +kernel
theorem dX6_tale_58 : decode cX6_tale 58 = .ok (.invokevirtual 121, 3) := by decide +kernel
theorem dX6_tale_61 : decode cX6_tale 61 = .ok (.goto 4, 3) := by decide +kernel
theorem dX6_tale_64 : decode cX6_tale 64 = .ok (.iconst (-1), 1) := by decide +kernel
theorem dX6_tale_65 : decode cX6_tale 65 = .ok (.istore_n 3, 1) := by decide +kernel
theorem dX6_tale_66 : decode cX6_tale 66 = .ok (.iload_n 3, 1) := by decide +kernel
theorem dX6_tale_67 : decode cX6_tale 67 = .ok (.iconst (-1), 1) := by decide +kernel
theorem dX6_tale_68 : decode cX6_tale 68 = .ok (.if_icmp .ne 5, 3) := by decide +kernel
theorem dX6_tale_71 : decode cX6_tale 71 = .ok (.iload_n 2, 1) := by decide +kernel
theorem dX6_tale_72 : decode cX6_tale 72 = .ok (.ireturn, 1) := by decide +kernel
theorem dX6_tale_73 : decode cX6_tale 73 = .ok (.iload_n 3, 1) := by decide +kernel
theorem dX6_tale_74 : decode cX6_tale 74 = .ok (.istore_n 1, 1) := by decide +kernel
theorem dX6_tale_75 : decode cX6_tale 75 = .ok (.iinc 2 1, 3) := by decide +kernel
theorem dX6_tale_78 : decode cX6_tale 78 = .ok (.goto (-49), 3) := by decide +kernel
theorem dX6_tale_81 : decode cX6_tale 81 = .ok (.aload_n 0, 1) := by decide +kernel
theorem dX6_tale_82 : decode cX6_tale 82 = .ok (.getfield 58, 3) := by decide +kernel
theorem dX6_tale_85 : decode cX6_tale 85 = .ok (.ireturn, 1) := by decide +kernel
set_option maxRecDepth 20000 in
theorem ggX6_walls_X6_holder : GoodIn wsX6_walls wsX6_holder := goodIn_r _ [4, 5, 6, 3, 7] (by decide +kernel) (by decide +kernel)
set_option maxRecDepth 20000 in
theorem gX6_walls_X6_holder : GoodIn wsX6_walls (va_wsS RX6 85 yX6_holder wsX6_holder) := goodIn_app (goodIn_of _ (by decide +kernel)) ggX6_walls_X6_holder
theorem dX6_walls_0 : decode cX6_walls 0 = .ok (.iconst 0, 1) := by decide +kernel
theorem dX6_walls_1 : decode cX6_walls 1 = .ok (.istore_n 2, 1) := by decide +kernel
theorem dX6_walls_2 : decode cX6_walls 2 = .ok (.iload_n 0, 1) := by decide +kernel
theorem dX6_walls_3 : decode cX6_walls 3 = .ok (.iload_n 1, 1) := by decide +kernel
theorem dX6_walls_4 : decode cX6_walls 4 = .ok (.invokestatic 85, 3) := by decide +kernel
theorem dX6_walls_7 : decode cX6_walls 7 = .ok (.istore_n 3, 1) := by decide +kernel
theorem dX6_walls_8 : decode cX6_walls 8 = .ok (.iload_n 3, 1) := by decide +kernel
theorem dX6_walls_9 : decode cX6_walls 9 = .ok (.iconst (-1), 1) := by decide +kernel
theorem dX6_walls_10 : decode cX6_walls 10 = .ok (.if_icmp .eq 15, 3) := by decide +kernel
theorem dX6_walls_13 : decode cX6_walls 13 = .ok (.iinc 2 1, 3) := by decide +kernel
theorem dX6_walls_16 : decode cX6_walls 16 = .ok (.iload_n 0, 1) := by decide +kernel
theorem dX6_walls_17 : decode cX6_walls 17 = .ok (.iload_n 3, 1) := by decide +kernel
theorem dX6_walls_18 : decode cX6_walls 18 = .ok (.invokestatic 85, 3) := by decide +kernel
theorem dX6_walls_21 : decode cX6_walls 21 = .ok (.istore_n 3, 1) := by decide +kernel
theorem dX6_walls_22 : decode cX6_walls 22 = .ok (.goto (-14), 3) := by decide +kernel
theorem dX6_walls_25 : decode cX6_walls 25 = .ok (.iload_n 2, 1) := by decide +kernel
theorem dX6_walls_26 : decode cX6_walls 26 = .ok (.ireturn, 1) := by decide +kernel
set_option maxRecDepth 20000 in
theorem ggX6_hearsOne_X6_holder : GoodIn wsX6_hearsOne wsX6_holder := goodIn_r _ [4, 5, 6, 3, 7] (by decide +kernel) (by decide +kernel)
set_option maxRecDepth 20000 in
theorem gX6_hearsOne_X6_holder : GoodIn wsX6_hearsOne (va_wsS RX6 85 yX6_holder wsX6_holder) := goodIn_app (goodIn_of _ (by decide +kernel)) ggX6_hearsOne_X6_holder
theorem dX6_hearsOne_0 : decode cX6_hearsOne 0 = .ok (.iload_n 0, 1) := by decide +kernel
theorem dX6_hearsOne_1 : decode cX6_hearsOne 1 = .ok (.iload_n 1, 1) := by decide +kernel
theorem dX6_hearsOne_2 : decode cX6_hearsOne 2 = .ok (.invokestatic 85, 3) := by decide +kernel
theorem dX6_hearsOne_5 : decode cX6_hearsOne 5 = .ok (.istore_n 3, 1) := by decide +kernel
theorem dX6_hearsOne_6 : decode cX6_hearsOne 6 = .ok (.iload_n 0, 1) := by decide +kernel
theorem dX6_hearsOne_7 : decode cX6_hearsOne 7 = .ok (.iload_n 2, 1) := by decide +kernel
theorem dX6_hearsOne_8 : decode cX6_hearsOne 8 = .ok (.invokestatic 85, 3) := by decide +kernel
theorem dX6_hearsOne_11 : decode cX6_hearsOne 11 = .ok (.istore 4, 2) := by decide +kernel
theorem dX6_hearsOne_13 : decode cX6_hearsOne 13 = .ok (.iload_n 3, 1) := by decide +kernel
theorem dX6_hearsOne_14 : decode cX6_hearsOne 14 = .ok (.iload 4, 2) := by decide +kernel
theorem dX6_hearsOne_16 : decode cX6_hearsOne 16 = .ok (.if_icmp .eq 14, 3) := by decide +kernel
theorem dX6_hearsOne_19 : decode cX6_hearsOne 19 = .ok (.iload_n 3, 1) := by decide +kernel
theorem dX6_hearsOne_20 : decode cX6_hearsOne 20 = .ok (.iload_n 2, 1) := by decide +kernel
theorem dX6_hearsOne_21 : decode cX6_hearsOne 21 = .ok (.if_icmp .eq 9, 3) := by decide +kernel
theorem dX6_hearsOne_24 : decode cX6_hearsOne 24 = .ok (.iload 4, 2) := by decide +kernel
theorem dX6_hearsOne_26 : decode cX6_hearsOne 26 = .ok (.iload_n 1, 1) := by decide +kernel
theorem dX6_hearsOne_27 : decode cX6_hearsOne 27 = .ok (.if_icmp .ne 7, 3) := by decide +kernel
theorem dX6_hearsOne_30 : decode cX6_hearsOne 30 = .ok (.iconst 1, 1) := by decide +kernel
theorem dX6_hearsOne_31 : decode cX6_hearsOne 31 = .ok (.goto 4, 3) := by decide +kernel
theorem dX6_hearsOne_34 : decode cX6_hearsOne 34 = .ok (.iconst 0, 1) := by decide +kernel
theorem dX6_hearsOne_35 : decode cX6_hearsOne 35 = .ok (.istore 5, 2) := by decide +kernel
theorem dX6_hearsOne_37 : decode cX6_hearsOne 37 = .ok (.iload 5, 2) := by decide +kernel
theorem dX6_hearsOne_39 : decode cX6_hearsOne 39 = .ok (.ifCond .ne 18, 3) := by decide +kernel
theorem dX6_hearsOne_42 : decode cX6_hearsOne 42 = .ok (.iload_n 3, 1) := by decide +kernel
theorem dX6_hearsOne_43 : decode cX6_hearsOne 43 = .ok (.iconst (-1), 1) := by decide +kernel
theorem dX6_hearsOne_44 : decode cX6_hearsOne 44 = .ok (.if_icmp .eq 17, 3) := by decide +kernel
theorem dX6_hearsOne_47 : decode cX6_hearsOne 47 = .ok (.iload_n 0, 1) := by decide +kernel
theorem dX6_hearsOne_48 : decode cX6_hearsOne 48 = .ok (.iload_n 3, 1) := by decide +kernel
theorem dX6_hearsOne_49 : decode cX6_hearsOne 49 = .ok (.invokestatic 85, 3) := by decide +kernel
theorem dX6_hearsOne_52 : decode cX6_hearsOne 52 = .ok (.iload 4, 2) := by decide +kernel
theorem dX6_hearsOne_54 : decode cX6_hearsOne 54 = .ok (.if_icmp .ne 7, 3) := by decide +kernel
theorem dX6_hearsOne_57 : decode cX6_hearsOne 57 = .ok (.iconst 1, 1) := by decide +kernel
theorem dX6_hearsOne_58 : decode cX6_hearsOne 58 = .ok (.goto 4, 3) := by decide +kernel
theorem dX6_hearsOne_61 : decode cX6_hearsOne 61 = .ok (.iconst 0, 1) := by decide +kernel
theorem dX6_hearsOne_62 : decode cX6_hearsOne 62 = .ok (.istore 5, 2) := by decide +kernel
theorem dX6_hearsOne_64 : decode cX6_hearsOne 64 = .ok (.iload 5, 2) := by decide +kernel
theorem dX6_hearsOne_66 : decode cX6_hearsOne 66 = .ok (.ifCond .ne 19, 3) := by decide +kernel
theorem dX6_hearsOne_69 : decode cX6_hearsOne 69 = .ok (.iload 4, 2) := by decide +kernel
theorem dX6_hearsOne_71 : decode cX6_hearsOne 71 = .ok (.iconst (-1), 1) := by decide +kernel
theorem dX6_hearsOne_72 : decode cX6_hearsOne 72 = .ok (.if_icmp .eq 17, 3) := by decide +kernel
theorem dX6_hearsOne_75 : decode cX6_hearsOne 75 = .ok (.iload_n 0, 1) := by decide +kernel
theorem dX6_hearsOne_76 : decode cX6_hearsOne 76 = .ok (.iload 4, 2) := by decide +kernel
theorem dX6_hearsOne_78 : decode cX6_hearsOne 78 = .ok (.invokestatic 85, 3) := by decide +kernel
theorem dX6_hearsOne_81 : decode cX6_hearsOne 81 = .ok (.iload_n 3, 1) := by decide +kernel
theorem dX6_hearsOne_82 : decode cX6_hearsOne 82 = .ok (.if_icmp .ne 7, 3) := by decide +kernel
theorem dX6_hearsOne_85 : decode cX6_hearsOne 85 = .ok (.iconst 1, 1) := by decide +kernel
theorem dX6_hearsOne_86 : decode cX6_hearsOne 86 = .ok (.goto 4, 3) := by decide +kernel
theorem dX6_hearsOne_89 : decode cX6_hearsOne 89 = .ok (.iconst 0, 1) := by decide +kernel
theorem dX6_hearsOne_90 : decode cX6_hearsOne 90 = .ok (.ireturn, 1) := by decide +kernel
set_option maxRecDepth 20000 in
theorem ggX6_heardBy_X6_hearsOne : GoodIn wsX6_heardBy wsX6_hearsOne := goodIn_r _ [5, 6, 7, 4, 8, 9, 10, 11] (by decide +kernel) (by decide +kernel)
set_option maxRecDepth 20000 in
theorem gX6_heardBy_X6_hearsOne : GoodIn wsX6_heardBy (va_wsS RX6 124 yX6_hearsOne wsX6_hearsOne) := goodIn_app (goodIn_of _ (by decide +kernel)) ggX6_heardBy_X6_hearsOne
theorem dX6_heardBy_0 : decode cX6_heardBy 0 = .ok (.iconst 0, 1) := by decide +kernel
theorem dX6_heardBy_1 : decode cX6_heardBy 1 = .ok (.istore_n 3, 1) := by decide +kernel
theorem dX6_heardBy_2 : decode cX6_heardBy 2 = .ok (.iconst 0, 1) := by decide +kernel
theorem dX6_heardBy_3 : decode cX6_heardBy 3 = .ok (.istore 4, 2) := by decide +kernel
theorem dX6_heardBy_5 : decode cX6_heardBy 5 = .ok (.iload 4, 2) := by decide +kernel
theorem dX6_heardBy_7 : decode cX6_heardBy 7 = .ok (.aload_n 0, 1) := by decide +kernel
theorem dX6_heardBy_8 : decode cX6_heardBy 8 = .ok (.getfield 72, 3) := by decide +kernel
theorem dX6_heardBy_11 : decode cX6_heardBy 11 = .ok (.if_icmp .ge 36, 3) := by decide +kernel
theorem dX6_heardBy_14 : decode cX6_heardBy 14 = .ok (.iload_n 3, 1) := by decide +kernel
theorem dX6_heardBy_15 : decode cX6_heardBy 15 = .ok (.iload 4, 2) := by decide +kernel
theorem dX6_heardBy_17 : decode cX6_heardBy 17 = .ok (.iload_n 2, 1) := by decide +kernel
theorem dX6_heardBy_18 : decode cX6_heardBy 18 = .ok (.if_icmp .eq 20, 3) := by decide +kernel
theorem dX6_heardBy_21 : decode cX6_heardBy 21 = .ok (.iload_n 1, 1) := by decide +kernel
theorem dX6_heardBy_22 : decode cX6_heardBy 22 = .ok (.iload_n 2, 1) := by decide +kernel
theorem dX6_heardBy_23 : decode cX6_heardBy 23 = .ok (.iload 4, 2) := by decide +kernel
theorem dX6_heardBy_25 : decode cX6_heardBy 25 = .ok (.invokestatic 124, 3) := by decide +kernel
theorem dX6_heardBy_28 : decode cX6_heardBy 28 = .ok (.ifCond .eq 10, 3) := by decide +kernel
theorem dX6_heardBy_31 : decode cX6_heardBy 31 = .ok (.iconst 1, 1) := by decide +kernel
theorem dX6_heardBy_32 : decode cX6_heardBy 32 = .ok (.iload 4, 2) := by decide +kernel
theorem dX6_heardBy_34 : decode cX6_heardBy 34 = .ok (.ishl, 1) := by decide +kernel
theorem dX6_heardBy_35 : decode cX6_heardBy 35 = .ok (.goto 4, 3) := by decide +kernel
theorem dX6_heardBy_38 : decode cX6_heardBy 38 = .ok (.iconst 0, 1) := by decide +kernel
theorem dX6_heardBy_39 : decode cX6_heardBy 39 = .ok (.ior, 1) := by decide +kernel
theorem dX6_heardBy_40 : decode cX6_heardBy 40 = .ok (.istore_n 3, 1) := by decide +kernel
theorem dX6_heardBy_41 : decode cX6_heardBy 41 = .ok (.iinc 4 1, 3) := by decide +kernel
theorem dX6_heardBy_44 : decode cX6_heardBy 44 = .ok (.goto (-39), 3) := by decide +kernel
theorem dX6_heardBy_47 : decode cX6_heardBy 47 = .ok (.iload_n 3, 1) := by decide +kernel
theorem dX6_heardBy_48 : decode cX6_heardBy 48 = .ok (.ireturn, 1) := by decide +kernel
set_option maxRecDepth 20000 in
theorem ggX6_tell_X6_holder : GoodIn wsX6_tell wsX6_holder := goodIn_r _ [6, 7, 8, 5, 9] (by decide +kernel) (by decide +kernel)
set_option maxRecDepth 20000 in
theorem gX6_tell_X6_holder : GoodIn wsX6_tell (va_wsS RX6 85 yX6_holder wsX6_holder) := goodIn_app (goodIn_of _ (by decide +kernel)) ggX6_tell_X6_holder
set_option maxRecDepth 20000 in
theorem ggX6_tell_X6_filled : GoodIn wsX6_tell wsX6_filled := goodIn_r _ [13, 14, 1, 3, 4, 5, 6, 7, 8, 9, 25, 26, 27, 28, 29, 30, 31, 32, 33, 34, 35, 36, 37, 38, 39, 40, 41, 42, 43, 44, 45, 46, 47, 48] (by decide +kernel) (by decide +kernel)
set_option maxRecDepth 20000 in
theorem gX6_tell_X6_filled : GoodIn wsX6_tell (wsV RX6 89 RX6 yX6_filled wsX6_filled) := goodIn_app (goodIn_of _ (by decide +kernel)) ggX6_tell_X6_filled
set_option maxRecDepth 20000 in
theorem ggX6_tell_X6_walls : GoodIn wsX6_tell wsX6_walls := goodIn_r _ [17, 3, 4, 5, 6, 7, 8, 9] (by decide +kernel) (by decide +kernel)
set_option maxRecDepth 20000 in
theorem gX6_tell_X6_walls : GoodIn wsX6_tell (va_wsS RX6 128 yX6_walls wsX6_walls) := goodIn_app (goodIn_of _ (by decide +kernel)) ggX6_tell_X6_walls
set_option maxRecDepth 20000 in
theorem ggX6_tell_X6_heardBy : GoodIn wsX6_tell wsX6_heardBy := goodIn_r _ [21, 14, 22, 23, 5, 24, 3, 4, 6, 7, 8, 9, 25, 26, 27, 28, 29, 30, 31, 32, 33, 34, 35, 36, 37, 38, 39, 40, 41, 42, 43, 44, 45, 46, 47, 48] (by decide +kernel) (by decide +kernel)
set_option maxRecDepth 20000 in
theorem gX6_tell_X6_heardBy : GoodIn wsX6_tell (wsV RX6 131 RX6 yX6_heardBy wsX6_heardBy) := goodIn_app (goodIn_of _ (by decide +kernel)) ggX6_tell_X6_heardBy
theorem dX6_tell_0 : decode cX6_tell 0 = .ok (.iload_n 2, 1) := by decide +kernel
theorem dX6_tell_1 : decode cX6_tell 1 = .ok (.tableswitch 96 0 7 #[47, 47, 47, 47, 58, 67, 77, 86], 47) := by decide +kernel
theorem dX6_tell_48 : decode cX6_tell 48 = .ok (.aload_n 0, 1) := by decide +kernel
theorem dX6_tell_49 : decode cX6_tell 49 = .ok (.getfield 16, 3) := by decide +kernel
theorem dX6_tell_52 : decode cX6_tell 52 = .ok (.iconst 4, 1) := by decide +kernel
theorem dX6_tell_53 : decode cX6_tell 53 = .ok (.iload_n 1, 1) := by decide +kernel
theorem dX6_tell_54 : decode cX6_tell 54 = .ok (.imul, 1) := by decide +kernel
theorem dX6_tell_55 : decode cX6_tell 55 = .ok (.iload_n 2, 1) := by decide +kernel
theorem dX6_tell_56 : decode cX6_tell 56 = .ok (.iadd, 1) := by decide +kernel
theorem dX6_tell_57 : decode cX6_tell 57 = .ok (.iaload, 1) := by decide +kernel
theorem dX6_tell_58 : decode cX6_tell 58 = .ok (.ireturn, 1) := by decide +kernel
theorem dX6_tell_59 : decode cX6_tell 59 = .ok (.aload_n 0, 1) := by decide +kernel
theorem dX6_tell_60 : decode cX6_tell 60 = .ok (.getfield 115, 3) := by decide +kernel
theorem dX6_tell_63 : decode cX6_tell 63 = .ok (.iload_n 1, 1) := by decide +kernel
theorem dX6_tell_64 : decode cX6_tell 64 = .ok (.invokestatic 85, 3) := by decide +kernel
theorem dX6_tell_67 : decode cX6_tell 67 = .ok (.ireturn, 1) := by decide +kernel
theorem dX6_tell_68 : decode cX6_tell 68 = .ok (.aload_n 0, 1) := by decide +kernel
theorem dX6_tell_69 : decode cX6_tell 69 = .ok (.aload_n 0, 1) := by decide +kernel
theorem dX6_tell_70 : decode cX6_tell 70 = .ok (.getfield 115, 3) := by decide +kernel
theorem dX6_tell_73 : decode cX6_tell 73 = .ok (.iload_n 1, 1) := by decide +kernel
theorem dX6_tell_74 : decode cX6_tell 74 = .ok (.invokevirtual 89, 3) := by decide +kernel
theorem dX6_tell_77 : decode cX6_tell 77 = .ok (.ireturn, 1) := by decide +kernel
theorem dX6_tell_78 : decode cX6_tell 78 = .ok (.aload_n 0, 1) := by decide +kernel
theorem dX6_tell_79 : decode cX6_tell 79 = .ok (.getfield 115, 3) := by decide +kernel
theorem dX6_tell_82 : decode cX6_tell 82 = .ok (.iload_n 1, 1) := by decide +kernel
theorem dX6_tell_83 : decode cX6_tell 83 = .ok (.invokestatic 128, 3) := by decide +kernel
theorem dX6_tell_86 : decode cX6_tell 86 = .ok (.ireturn, 1) := by decide +kernel
theorem dX6_tell_87 : decode cX6_tell 87 = .ok (.aload_n 0, 1) := by decide +kernel
theorem dX6_tell_88 : decode cX6_tell 88 = .ok (.aload_n 0, 1) := by decide +kernel
theorem dX6_tell_89 : decode cX6_tell 89 = .ok (.getfield 115, 3) := by decide +kernel
theorem dX6_tell_92 : decode cX6_tell 92 = .ok (.iload_n 1, 1) := by decide +kernel
theorem dX6_tell_93 : decode cX6_tell 93 = .ok (.invokevirtual 131, 3) := by decide +kernel
theorem dX6_tell_96 : decode cX6_tell 96 = .ok (.ireturn, 1) := by decide +kernel
theorem dX6_tell_97 : decode cX6_tell 97 = .ok (.bipush (-102), 2) := by decide +kernel
theorem dX6_tell_99 : decode cX6_tell 99 = .ok (.ireturn, 1) := by decide +kernel
set_option maxRecDepth 20000 in
theorem ggX6_about_X6_isBeing : GoodIn wsX6_about wsX6_isBeing := goodIn_r _ [5, 6, 7, 8, 4, 9, 36, 37, 38, 39, 40, 41, 42, 43, 44, 45, 46, 47, 48, 49, 50, 51, 52, 53, 54, 55, 56, 57, 58, 59] (by decide +kernel) (by decide +kernel)
set_option maxRecDepth 20000 in
theorem gX6_about_X6_isBeing : GoodIn wsX6_about (wsV RX6 98 RX6 yX6_isBeing wsX6_isBeing) := goodIn_app (goodIn_of _ (by decide +kernel)) ggX6_about_X6_isBeing
set_option maxRecDepth 20000 in
theorem ggX6_about_X6_tell : GoodIn wsX6_about wsX6_tell := goodIn_r _ [13, 14, 15, 16, 17, 4, 18, 19, 20, 21, 22, 23, 24, 25, 6, 26, 27, 28, 29, 30, 31, 32, 33, 34, 35, 36, 37, 38, 39, 40, 41, 42, 43, 44, 45, 46, 47, 48, 49, 50, 51, 52, 53, 54, 55, 56, 57, 58, 59] (by decide +kernel) (by decide +kernel)
set_option maxRecDepth 20000 in
theorem gX6_about_X6_tell : GoodIn wsX6_about (wsV RX6 134 RX6 yX6_tell wsX6_tell) := goodIn_app (goodIn_of _ (by decide +kernel)) ggX6_about_X6_tell
theorem dX6_about_0 : decode cX6_about 0 = .ok (.aload_n 0, 1) := by decide +kernel
theorem dX6_about_1 : decode cX6_about 1 = .ok (.iload_n 1, 1) := by decide +kernel
theorem dX6_about_2 : decode cX6_about 2 = .ok (.invokevirtual 98, 3) := by decide +kernel
theorem dX6_about_5 : decode cX6_about 5 = .ok (.ifCond .eq 12, 3) := by decide +kernel
theorem dX6_about_8 : decode cX6_about 8 = .ok (.aload_n 0, 1) := by decide +kernel
theorem dX6_about_9 : decode cX6_about 9 = .ok (.iload_n 1, 1) := by decide +kernel
theorem dX6_about_10 : decode cX6_about 10 = .ok (.iload_n 2, 1) := by decide +kernel
theorem dX6_about_11 : decode cX6_about 11 = .ok (.invokevirtual 134, 3) := by decide +kernel
theorem dX6_about_14 : decode cX6_about 14 = .ok (.goto 5, 3) := by decide +kernel
theorem dX6_about_17 : decode cX6_about 17 = .ok (.bipush (-101), 2) := by decide +kernel
theorem dX6_about_19 : decode cX6_about 19 = .ok (.ireturn, 1) := by decide +kernel
set_option maxRecDepth 20000 in
theorem ggX6_as_X6_isBeing : GoodIn wsX6_as wsX6_isBeing := goodIn_r _ [7, 8, 9, 10, 6, 11, 12, 13, 14, 15, 16, 17, 18, 19, 20, 21, 22, 23, 24, 25, 26, 27, 28, 29, 30, 31, 32, 33, 34, 35] (by decide +kernel) (by decide +kernel)
set_option maxRecDepth 20000 in
theorem gX6_as_X6_isBeing : GoodIn wsX6_as (wsV RX6 98 RX6 yX6_isBeing wsX6_isBeing) := goodIn_app (goodIn_of _ (by decide +kernel)) ggX6_as_X6_isBeing
set_option maxRecDepth 20000 in
theorem ggX6_as_X6_in : GoodIn wsX6_as wsX6_in := goodIn_r _ [11] (by decide +kernel) (by decide +kernel)
set_option maxRecDepth 20000 in
theorem gX6_as_X6_in : GoodIn wsX6_as (va_wsS RX6 43 yX6_in wsX6_in) := goodIn_app (goodIn_of _ (by decide +kernel)) ggX6_as_X6_in
theorem dX6_as_0 : decode cX6_as 0 = .ok (.aload_n 0, 1) := by decide +kernel
theorem dX6_as_1 : decode cX6_as 1 = .ok (.iload_n 1, 1) := by decide +kernel
theorem dX6_as_2 : decode cX6_as 2 = .ok (.invokevirtual 98, 3) := by decide +kernel
theorem dX6_as_5 : decode cX6_as 5 = .ok (.ifCond .ne 6, 3) := by decide +kernel
theorem dX6_as_8 : decode cX6_as 8 = .ok (.bipush (-101), 2) := by decide +kernel
theorem dX6_as_10 : decode cX6_as 10 = .ok (.ireturn, 1) := by decide +kernel
theorem dX6_as_11 : decode cX6_as 11 = .ok (.iload_n 2, 1) := by decide +kernel
theorem dX6_as_12 : decode cX6_as 12 = .ok (.i2l, 1) := by decide +kernel
theorem dX6_as_13 : decode cX6_as 13 = .ok (.lconst 0, 1) := by decide +kernel
theorem dX6_as_14 : decode cX6_as 14 = .ok (.ldc2_w 50, 3) := by decide +kernel
theorem dX6_as_17 : decode cX6_as 17 = .ok (.invokestatic 43, 3) := by decide +kernel
theorem dX6_as_20 : decode cX6_as 20 = .ok (.ifCond .ne 6, 3) := by decide +kernel
theorem dX6_as_23 : decode cX6_as 23 = .ok (.bipush (-102), 2) := by decide +kernel
theorem dX6_as_25 : decode cX6_as 25 = .ok (.ireturn, 1) := by decide +kernel
theorem dX6_as_26 : decode cX6_as 26 = .ok (.aload_n 0, 1) := by decide +kernel
theorem dX6_as_27 : decode cX6_as 27 = .ok (.getfield 16, 3) := by decide +kernel
theorem dX6_as_30 : decode cX6_as 30 = .ok (.iconst 4, 1) := by decide +kernel
theorem dX6_as_31 : decode cX6_as 31 = .ok (.iload_n 1, 1) := by decide +kernel
theorem dX6_as_32 : decode cX6_as 32 = .ok (.imul, 1) := by decide +kernel
theorem dX6_as_33 : decode cX6_as 33 = .ok (.iaload, 1) := by decide +kernel
theorem dX6_as_34 : decode cX6_as 34 = .ok (.istore_n 3, 1) := by decide +kernel
theorem dX6_as_35 : decode cX6_as 35 = .ok (.iload_n 2, 1) := by decide +kernel
theorem dX6_as_36 : decode cX6_as 36 = .ok (.ifCond .eq 27, 3) := by decide +kernel
theorem dX6_as_39 : decode cX6_as 39 = .ok (.iload_n 2, 1) := by decide +kernel
theorem dX6_as_40 : decode cX6_as 40 = .ok (.iload_n 3, 1) := by decide +kernel
theorem dX6_as_41 : decode cX6_as 41 = .ok (.if_icmp .eq 22, 3) := by decide +kernel
theorem dX6_as_44 : decode cX6_as 44 = .ok (.iload_n 2, 1) := by decide +kernel
theorem dX6_as_45 : decode cX6_as 45 = .ok (.iconst 1, 1) := by decide +kernel
theorem dX6_as_46 : decode cX6_as 46 = .ok (.if_icmp .ne 7, 3) := by decide +kernel
theorem dX6_as_49 : decode cX6_as 49 = .ok (.iload_n 3, 1) := by decide +kernel
theorem dX6_as_50 : decode cX6_as 50 = .ok (.ifCond .gt 13, 3) := by decide +kernel
theorem dX6_as_53 : decode cX6_as 53 = .ok (.iload_n 2, 1) := by decide +kernel
theorem dX6_as_54 : decode cX6_as 54 = .ok (.iconst 2, 1) := by decide +kernel
theorem dX6_as_55 : decode cX6_as 55 = .ok (.if_icmp .ne 12, 3) := by decide +kernel
theorem dX6_as_58 : decode cX6_as 58 = .ok (.iload_n 3, 1) := by decide +kernel
theorem dX6_as_59 : decode cX6_as 59 = .ok (.iconst 4, 1) := by decide +kernel
theorem dX6_as_60 : decode cX6_as 60 = .ok (.if_icmp .ne 7, 3) := by decide +kernel
theorem dX6_as_63 : decode cX6_as 63 = .ok (.iconst 1, 1) := by decide +kernel
theorem dX6_as_64 : decode cX6_as 64 = .ok (.goto 4, 3) := by decide +kernel
theorem dX6_as_67 : decode cX6_as 67 = .ok (.iconst 0, 1) := by decide +kernel
theorem dX6_as_68 : decode cX6_as 68 = .ok (.istore 4, 2) := by decide +kernel
theorem dX6_as_70 : decode cX6_as 70 = .ok (.iload 4, 2) := by decide +kernel
theorem dX6_as_72 : decode cX6_as 72 = .ok (.ifCond .eq 7, 3) := by decide +kernel
theorem dX6_as_75 : decode cX6_as 75 = .ok (.iload_n 1, 1) := by decide +kernel
theorem dX6_as_76 : decode cX6_as 76 = .ok (.goto 4, 3) := by decide +kernel
theorem dX6_as_79 : decode cX6_as 79 = .ok (.iconst (-1), 1) := by decide +kernel
theorem dX6_as_80 : decode cX6_as 80 = .ok (.ireturn, 1) := by decide +kernel
set_option maxRecDepth 20000 in
theorem ggX6_may_X6_isDeed : GoodIn wsX6_may wsX6_isDeed := goodIn_r _ [6, 7, 8, 9, 10, 11, 12, 13, 5, 14, 15, 16, 17, 18, 19, 46, 47, 48, 49, 50, 51, 52, 53, 54, 55, 56, 57, 58, 59, 60, 61, 62, 63, 64, 65, 66, 67, 68, 69] (by decide +kernel) (by decide +kernel)
set_option maxRecDepth 20000 in
theorem gX6_may_X6_isDeed : GoodIn wsX6_may (wsV RX6 118 RX6 yX6_isDeed wsX6_isDeed) := goodIn_app (goodIn_of _ (by decide +kernel)) ggX6_may_X6_isDeed
set_option maxRecDepth 20000 in
theorem ggX6_may_X6_done : GoodIn wsX6_may wsX6_done := goodIn_r _ [23, 24, 25, 26, 27, 5, 28, 29, 30, 31, 32, 19, 33, 34, 35, 36, 37, 38, 39, 40, 41, 42, 43, 44, 45, 46, 47, 48, 49, 50, 51, 52, 53, 54, 55, 56, 57, 58, 59, 60, 61, 62, 63, 64, 65, 66, 67, 68, 69] (by decide +kernel) (by decide +kernel)
set_option maxRecDepth 20000 in
theorem gX6_may_X6_done : GoodIn wsX6_may (wsV RX6 121 RX6 yX6_done wsX6_done) := goodIn_app (goodIn_of _ (by decide +kernel)) ggX6_may_X6_done
theorem dX6_may_0 : decode cX6_may 0 = .ok (.aload_n 0, 1) := by decide +kernel
theorem dX6_may_1 : decode cX6_may 1 = .ok (.iload_n 1, 1) := by decide +kernel
theorem dX6_may_2 : decode cX6_may 2 = .ok (.invokevirtual 118, 3) := by decide +kernel
theorem dX6_may_5 : decode cX6_may 5 = .ok (.ifCond .ne 8, 3) := by decide +kernel
theorem dX6_may_8 : decode cX6_may 8 = .ok (.bipush (-101), 2) := by decide +kernel
theorem dX6_may_10 : decode cX6_may 10 = .ok (.goto 21, 3) := by decide +kernel
theorem dX6_may_13 : decode cX6_may 13 = .ok (.aload_n 0, 1) := by decide +kernel
theorem dX6_may_14 : decode cX6_may 14 = .ok (.aload_n 0, 1) := by decide +kernel
theorem dX6_may_15 : decode cX6_may 15 = .ok (.getfield 115, 3) := by decide +kernel
theorem dX6_may_18 : decode cX6_may 18 = .ok (.iload_n 1, 1) := by decide +kernel
theorem dX6_may_19 : decode cX6_may 19 = .ok (.invokevirtual 121, 3) := by decide +kernel
theorem dX6_may_22 : decode cX6_may 22 = .ok (.iconst (-1), 1) := by decide +kernel
theorem dX6_may_23 : decode cX6_may 23 = .ok (.if_icmp .ne 7, 3) := by decide +kernel
theorem dX6_may_26 : decode cX6_may 26 = .ok (.iconst 0, 1) := by decide +kernel
theorem dX6_may_27 : decode cX6_may 27 = .ok (.goto 4, 3) := by decide +kernel
theorem dX6_may_30 : decode cX6_may 30 = .ok (.iconst 1, 1) := by decide +kernel
theorem dX6_may_31 : decode cX6_may 31 = .ok (.ireturn, 1) := by decide +kernel
set_option maxRecDepth 20000 in
theorem ggX6_deed_X6_isDeed : GoodIn wsX6_deed wsX6_isDeed := goodIn_r _ [7, 8, 9, 10, 11, 12, 13, 14, 6, 15, 16, 17, 18, 19, 20, 47, 48, 49, 50, 51, 52, 53, 54, 55, 56, 57, 58, 59, 60, 61, 62, 63, 64, 65, 66, 67, 68, 69, 70] (by decide +kernel) (by decide +kernel)
set_option maxRecDepth 20000 in
theorem gX6_deed_X6_isDeed : GoodIn wsX6_deed (wsV RX6 118 RX6 yX6_isDeed wsX6_isDeed) := goodIn_app (goodIn_of _ (by decide +kernel)) ggX6_deed_X6_isDeed
set_option maxRecDepth 20000 in
theorem ggX6_deed_X6_done : GoodIn wsX6_deed wsX6_done := goodIn_r _ [24, 25, 26, 27, 28, 6, 29, 30, 31, 32, 33, 20, 34, 35, 36, 37, 38, 39, 40, 41, 42, 43, 44, 45, 46, 47, 48, 49, 50, 51, 52, 53, 54, 55, 56, 57, 58, 59, 60, 61, 62, 63, 64, 65, 66, 67, 68, 69, 70] (by decide +kernel) (by decide +kernel)
set_option maxRecDepth 20000 in
theorem gX6_deed_X6_done : GoodIn wsX6_deed (wsV RX6 121 RX6 yX6_done wsX6_done) := goodIn_app (goodIn_of _ (by decide +kernel)) ggX6_deed_X6_done
theorem dX6_deed_0 : decode cX6_deed 0 = .ok (.aload_n 0, 1) := by decide +kernel
theorem dX6_deed_1 : decode cX6_deed 1 = .ok (.iload_n 1, 1) := by decide +kernel
theorem dX6_deed_2 : decode cX6_deed 2 = .ok (.invokevirtual 118, 3) := by decide +kernel
theorem dX6_deed_5 : decode cX6_deed 5 = .ok (.ifCond .ne 6, 3) := by decide +kernel
theorem dX6_deed_8 : decode cX6_deed 8 = .ok (.bipush (-101), 2) := by decide +kernel
theorem dX6_deed_10 : decode cX6_deed 10 = .ok (.ireturn, 1) := by decide +kernel
theorem dX6_deed_11 : decode cX6_deed 11 = .ok (.aload_n 0, 1) := by decide +kernel
theorem dX6_deed_12 : decode cX6_deed 12 = .ok (.aload_n 0, 1) := by decide +kernel
theorem dX6_deed_13 : decode cX6_deed 13 = .ok (.getfield 115, 3) := by decide +kernel
theorem dX6_deed_16 : decode cX6_deed 16 = .ok (.iload_n 1, 1) := by decide +kernel
theorem dX6_deed_17 : decode cX6_deed 17 = .ok (.invokevirtual 121, 3) := by decide +kernel
theorem dX6_deed_20 : decode cX6_deed 20 = .ok (.istore_n 2, 1) := by decide +kernel
theorem dX6_deed_21 : decode cX6_deed 21 = .ok (.iload_n 2, 1) := by decide +kernel
theorem dX6_deed_22 : decode cX6_deed 22 = .ok (.iconst (-1), 1) := by decide +kernel
theorem dX6_deed_23 : decode cX6_deed 23 = .ok (.if_icmp .ne 6, 3) := by decide +kernel
theorem dX6_deed_26 : decode cX6_deed 26 = .ok (.bipush (-103), 2) := by decide +kernel
theorem dX6_deed_28 : decode cX6_deed 28 = .ok (.ireturn, 1) := by decide +kernel
theorem dX6_deed_29 : decode cX6_deed 29 = .ok (.aload_n 0, 1) := by decide +kernel
theorem dX6_deed_30 : decode cX6_deed 30 = .ok (.iload_n 2, 1) := by decide +kernel
theorem dX6_deed_31 : decode cX6_deed 31 = .ok (.putfield 115, 3) := by decide +kernel
theorem dX6_deed_34 : decode cX6_deed 34 = .ok (.aload_n 0, 1) := by decide +kernel
theorem dX6_deed_35 : decode cX6_deed 35 = .ok (.dup, 1) := by decide +kernel
theorem dX6_deed_36 : decode cX6_deed 36 = .ok (.getfield 137, 3) := by decide +kernel
theorem dX6_deed_39 : decode cX6_deed 39 = .ok (.iconst 1, 1) := by decide +kernel
theorem dX6_deed_40 : decode cX6_deed 40 = .ok (.iadd, 1) := by decide +kernel
theorem dX6_deed_41 : decode cX6_deed 41 = .ok (.putfield 137, 3) := by decide +kernel
theorem dX6_deed_44 : decode cX6_deed 44 = .ok (.aload_n 0, 1) := by decide +kernel
theorem dX6_deed_45 : decode cX6_deed 45 = .ok (.getfield 137, 3) := by decide +kernel
theorem dX6_deed_48 : decode cX6_deed 48 = .ok (.ireturn, 1) := by decide +kernel
theorem dX6_number_0 : decode cX6_number 0 = .ok (.aload_n 0, 1) := by decide +kernel
theorem dX6_number_1 : decode cX6_number 1 = .ok (.getfield 115, 3) := by decide +kernel
theorem dX6_number_4 : decode cX6_number 4 = .ok (.ireturn, 1) := by decide +kernel
set_option maxRecDepth 20000 in
theorem ggX6_lay_X6_isDeed : GoodIn wsX6_lay wsX6_isDeed := goodIn_r _ [10, 11, 12, 13, 14, 15, 16, 17, 9, 18, 19, 20, 21, 22, 23, 50, 51, 52, 53, 54, 55, 56, 57, 58, 59, 60, 61, 62, 63, 64, 65, 66, 67, 68, 69, 70, 71, 72, 73] (by decide +kernel) (by decide +kernel)
set_option maxRecDepth 20000 in
theorem gX6_lay_X6_isDeed : GoodIn wsX6_lay (wsV RX6 118 RX6 yX6_isDeed wsX6_isDeed) := goodIn_app (goodIn_of _ (by decide +kernel)) ggX6_lay_X6_isDeed
set_option maxRecDepth 20000 in
theorem ggX6_lay_X6_done : GoodIn wsX6_lay wsX6_done := goodIn_r _ [27, 28, 29, 30, 31, 9, 32, 33, 34, 35, 36, 23, 37, 38, 39, 40, 41, 42, 43, 44, 45, 46, 47, 48, 49, 50, 51, 52, 53, 54, 55, 56, 57, 58, 59, 60, 61, 62, 63, 64, 65, 66, 67, 68, 69, 70, 71, 72, 73] (by decide +kernel) (by decide +kernel)
set_option maxRecDepth 20000 in
theorem gX6_lay_X6_done : GoodIn wsX6_lay (wsV RX6 121 RX6 yX6_done wsX6_done) := goodIn_app (goodIn_of _ (by decide +kernel)) ggX6_lay_X6_done
theorem dX6_lay_0 : decode cX6_lay 0 = .ok (.iconst 0, 1) := by decide +kernel
theorem dX6_lay_1 : decode cX6_lay 1 = .ok (.istore_n 1, 1) := by decide +kernel
theorem dX6_lay_2 : decode cX6_lay 2 = .ok (.iload_n 1, 1) := by decide +kernel
theorem dX6_lay_3 : decode cX6_lay 3 = .ok (.sipush 7776, 3) := by decide +kernel
theorem dX6_lay_6 : decode cX6_lay 6 = .ok (.if_icmp .ge 16, 3) := by decide +kernel
theorem dX6_lay_9 : decode cX6_lay 9 = .ok (.aload_n 0, 1) := by decide +kernel
theorem dX6_lay_10 : decode cX6_lay 10 = .ok (.getfield 19, 3) := by decide +kernel
theorem dX6_lay_13 : decode cX6_lay 13 = .ok (.iload_n 1, 1) := by decide +kernel
theorem dX6_lay_14 : decode cX6_lay 14 = .ok (.iconst (-1), 1) := by decide +kernel
theorem dX6_lay_15 : decode cX6_lay 15 = .ok (.iastore, 1) := by decide +kernel
theorem dX6_lay_16 : decode cX6_lay 16 = .ok (.iinc 1 1, 3) := by decide +kernel
theorem dX6_lay_19 : decode cX6_lay 19 = .ok (.goto (-17), 3) := by decide +kernel
theorem dX6_lay_22 : decode cX6_lay 22 = .ok (.aload_n 0, 1) := by decide +kernel
theorem dX6_lay_23 : decode cX6_lay 23 = .ok (.getfield 19, 3) := by decide +kernel
theorem dX6_lay_26 : decode cX6_lay 26 = .ok (.aload_n 0, 1) := by decide +kernel
theorem dX6_lay_27 : decode cX6_lay 27 = .ok (.getfield 115, 3) := by decide +kernel
theorem dX6_lay_30 : decode cX6_lay 30 = .ok (.iconst 0, 1) := by decide +kernel
theorem dX6_lay_31 : decode cX6_lay 31 = .ok (.iastore, 1) := by decide +kernel
theorem dX6_lay_32 : decode cX6_lay 32 = .ok (.aload_n 0, 1) := by decide +kernel
theorem dX6_lay_33 : decode cX6_lay 33 = .ok (.getfield 22, 3) := by decide +kernel
theorem dX6_lay_36 : decode cX6_lay 36 = .ok (.aload_n 0, 1) := by decide +kernel
theorem dX6_lay_37 : decode cX6_lay 37 = .ok (.getfield 115, 3) := by decide +kernel
theorem dX6_lay_40 : decode cX6_lay 40 = .ok (.iconst (-1), 1) := by decide +kernel
theorem dX6_lay_41 : decode cX6_lay 41 = .ok (.iastore, 1) := by decide +kernel
theorem dX6_lay_42 : decode cX6_lay 42 = .ok (.aload_n 0, 1) := by decide +kernel
theorem dX6_lay_43 : decode cX6_lay 43 = .ok (.getfield 25, 3) := by decide +kernel
theorem dX6_lay_46 : decode cX6_lay 46 = .ok (.iconst 0, 1) := by decide +kernel
theorem dX6_lay_47 : decode cX6_lay 47 = .ok (.aload_n 0, 1) := by decide +kernel
theorem dX6_lay_48 : decode cX6_lay 48 = .ok (.getfield 115, 3) := by decide +kernel
theorem dX6_lay_51 : decode cX6_lay 51 = .ok (.iastore, 1) := by decide +kernel
theorem dX6_lay_52 : decode cX6_lay 52 = .ok (.aload_n 0, 1) := by decide +kernel
theorem dX6_lay_53 : decode cX6_lay 53 = .ok (.iconst 1, 1) := by decide +kernel
theorem dX6_lay_54 : decode cX6_lay 54 = .ok (.putfield 140, 3) := by decide +kernel
theorem dX6_lay_57 : decode cX6_lay 57 = .ok (.iconst 0, 1) := by decide +kernel
theorem dX6_lay_58 : decode cX6_lay 58 = .ok (.istore_n 1, 1) := by decide +kernel
theorem dX6_lay_59 : decode cX6_lay 59 = .ok (.iload_n 1, 1) := by decide +kernel
theorem dX6_lay_60 : decode cX6_lay 60 = .ok (.aload_n 0, 1) := by decide +kernel
theorem dX6_lay_61 : decode cX6_lay 61 = .ok (.getfield 140, 3) := by decide +kernel
theorem dX6_lay_64 : decode cX6_lay 64 = .ok (.if_icmp .ge 124, 3) := by decide +kernel
theorem dX6_lay_67 : decode cX6_lay 67 = .ok (.aload_n 0, 1) := by decide +kernel
theorem dX6_lay_68 : decode cX6_lay 68 = .ok (.getfield 25, 3) := by decide +kernel
theorem dX6_lay_71 : decode cX6_lay 71 = .ok (.iload_n 1, 1) := by decide +kernel
theorem dX6_lay_72 : decode cX6_lay 72 = .ok (.iaload, 1) := by decide +kernel
theorem dX6_lay_73 : decode cX6_lay 73 = .ok (.istore_n 2, 1) := by decide +kernel
theorem dX6_lay_74 : decode cX6_lay 74 = .ok (.iconst 0, 1) := by decide +kernel
theorem dX6_lay_75 : decode cX6_lay 75 = .ok (.istore_n 3, 1) := by decide +kernel
theorem dX6_lay_76 : decode cX6_lay 76 = .ok (.iload_n 3, 1) := by decide +kernel
theorem dX6_lay_77 : decode cX6_lay 77 = .ok (.bipush 45, 2) := by decide +kernel
theorem dX6_lay_79 : decode cX6_lay 79 = .ok (.if_icmp .ge 103, 3) := by decide +kernel
theorem dX6_lay_82 : decode cX6_lay 82 = .ok (.aload_n 0, 1) := by decide +kernel
theorem dX6_lay_83 : decode cX6_lay 83 = .ok (.iload_n 3, 1) := by decide +kernel
theorem dX6_lay_84 : decode cX6_lay 84 = .ok (.invokevirtual 118, 3) := by decide +kernel
theorem dX6_lay_87 : decode cX6_lay 87 = .ok (.ifCond .eq 12, 3) := by decide +kernel
theorem dX6_lay_90 : decode cX6_lay 90 = .ok (.aload_n 0, 1) := by decide +kernel
theorem dX6_lay_91 : decode cX6_lay 91 = .ok (.iload_n 2, 1) := by decide +kernel
theorem dX6_lay_92 : decode cX6_lay 92 = .ok (.iload_n 3, 1) := by decide +kernel
theorem dX6_lay_93 : decode cX6_lay 93 = .ok (.invokevirtual 121, 3) := by decide +kernel
theorem dX6_lay_96 : decode cX6_lay 96 = .ok (.goto 4, 3) := by decide +kernel
theorem dX6_lay_99 : decode cX6_lay 99 = .ok (.iconst (-1), 1) := by decide +kernel
theorem dX6_lay_100 : decode cX6_lay 100 = .ok (.istore 4, 2) := by decide +kernel
theorem dX6_lay_102 : decode cX6_lay 102 = .ok (.iload 4, 2) := by decide +kernel
theorem dX6_lay_104 : decode cX6_lay 104 = .ok (.iconst (-1), 1) := by decide +kernel
theorem dX6_lay_105 : decode cX6_lay 105 = .ok (.if_icmp .eq 71, 3) := by decide +kernel
theorem dX6_lay_108 : decode cX6_lay 108 = .ok (.aload_n 0, 1) := by decide +kernel
theorem dX6_lay_109 : decode cX6_lay 109 = .ok (.getfield 19, 3) := by decide +kernel
theorem dX6_lay_112 : decode cX6_lay 112 = .ok (.iload 4, 2) := by decide +kernel
theorem dX6_lay_114 : decode cX6_lay 114 = .ok (.iaload, 1) := by decide +kernel
theorem dX6_lay_115 : decode cX6_lay 115 = .ok (.iconst (-1), 1) := by decide +kernel
theorem dX6_lay_116 : decode cX6_lay 116 = .ok (.if_icmp .ne 60, 3) := by decide +kernel
theorem dX6_lay_119 : decode cX6_lay 119 = .ok (.aload_n 0, 1) := by decide +kernel
theorem dX6_lay_120 : decode cX6_lay 120 = .ok (.getfield 19, 3) := by decide +kernel
theorem dX6_lay_123 : decode cX6_lay 123 = .ok (.iload 4, 2) := by decide +kernel
theorem dX6_lay_125 : decode cX6_lay 125 = .ok (.aload_n 0, 1) := by decide +kernel
theorem dX6_lay_126 : decode cX6_lay 126 = .ok (.getfield 19, 3) := by decide +kernel
theorem dX6_lay_129 : decode cX6_lay 129 = .ok (.iload_n 2, 1) := by decide +kernel
theorem dX6_lay_130 : decode cX6_lay 130 = .ok (.iaload, 1) := by decide +kernel
theorem dX6_lay_131 : decode cX6_lay 131 = .ok (.iconst 1, 1) := by decide +kernel
theorem dX6_lay_132 : decode cX6_lay 132 = .ok (.iadd, 1) := by decide +kernel
theorem dX6_lay_133 : decode cX6_lay 133 = .ok (.iastore, 1) := by decide +kernel
theorem dX6_lay_134 : decode cX6_lay 134 = .ok (.aload_n 0, 1) := by decide +kernel
theorem dX6_lay_135 : decode cX6_lay 135 = .ok (.getfield 22, 3) := by decide +kernel
theorem dX6_lay_138 : decode cX6_lay 138 = .ok (.iload 4, 2) := by decide +kernel
theorem dX6_lay_140 : decode cX6_lay 140 = .ok (.iload_n 1, 1) := by decide +kernel
theorem dX6_lay_141 : decode cX6_lay 141 = .ok (.ifCond .ne 7, 3) := by decide +kernel
theorem dX6_lay_144 : decode cX6_lay 144 = .ok (.iload_n 3, 1) := by decide +kernel
theorem dX6_lay_145 : decode cX6_lay 145 = .ok (.goto 9, 3) := by decide +kernel
theorem dX6_lay_148 : decode cX6_lay 148 = .ok (.aload_n 0, 1) := by decide +kernel
theorem dX6_lay_149 : decode cX6_lay 149 = .ok (.getfield 22, 3) := by decide +kernel
theorem dX6_lay_152 : decode cX6_lay 152 = .ok (.iload_n 2, 1) := by decide +kernel
theorem dX6_lay_153 : decode cX6_lay 153 = .ok (.iaload, 1) := by decide +kernel
theorem dX6_lay_154 : decode cX6_lay 154 = .ok (.iastore, 1) := by decide +kernel
theorem dX6_lay_155 : decode cX6_lay 155 = .ok (.aload_n 0, 1) := by decide +kernel
theorem dX6_lay_156 : decode cX6_lay 156 = .ok (.getfield 25, 3) := by decide +kernel
theorem dX6_lay_159 : decode cX6_lay 159 = .ok (.aload_n 0, 1) := by decide +kernel
theorem dX6_lay_160 : decode cX6_lay 160 = .ok (.getfield 140, 3) := by decide +kernel
theorem dX6_lay_163 : decode cX6_lay 163 = .ok (.iload 4, 2) := by decide +kernel
theorem dX6_lay_165 : decode cX6_lay 165 = .ok (.iastore, 1) := by decide +kernel
theorem dX6_lay_166 : decode cX6_lay 166 = .ok (.aload_n 0, 1) := by decide +kernel
theorem dX6_lay_167 : decode cX6_lay 167 = .ok (.dup, 1) := by decide +kernel
theorem dX6_lay_168 : decode cX6_lay 168 = .ok (.getfield 140, 3) := by decide +kernel
theorem dX6_lay_171 : decode cX6_lay 171 = .ok (.iconst 1, 1) := by decide +kernel
theorem dX6_lay_172 : decode cX6_lay 172 = .ok (.iadd, 1) := by decide +kernel
theorem dX6_lay_173 : decode cX6_lay 173 = .ok (.putfield 140, 3) := by decide +kernel
theorem dX6_lay_176 : decode cX6_lay 176 = .ok (.iinc 3 1, 3) := by decide +kernel
theorem dX6_lay_179 : decode cX6_lay 179 = .ok (.goto (-103), 3) := by decide +kernel
theorem dX6_lay_182 : decode cX6_lay 182 = .ok (.iinc 1 1, 3) := by decide +kernel
theorem dX6_lay_185 : decode cX6_lay 185 = .ok (.goto (-126), 3) := by decide +kernel
theorem dX6_lay_188 : decode cX6_lay 188 = .ok (.return_, 1) := by decide +kernel
set_option maxRecDepth 20000 in
theorem ggX6_areOut_X6_holder : GoodIn wsX6_areOut wsX6_holder := goodIn_r _ [4, 5, 6, 3, 7] (by decide +kernel) (by decide +kernel)
set_option maxRecDepth 20000 in
theorem gX6_areOut_X6_holder : GoodIn wsX6_areOut (va_wsS RX6 85 yX6_holder wsX6_holder) := goodIn_app (goodIn_of _ (by decide +kernel)) ggX6_areOut_X6_holder
theorem dX6_areOut_0 : decode cX6_areOut 0 = .ok (.iconst 1, 1) := by decide +kernel
theorem dX6_areOut_1 : decode cX6_areOut 1 = .ok (.istore_n 2, 1) := by decide +kernel
theorem dX6_areOut_2 : decode cX6_areOut 2 = .ok (.iconst 0, 1) := by decide +kernel
theorem dX6_areOut_3 : decode cX6_areOut 3 = .ok (.istore_n 3, 1) := by decide +kernel
theorem dX6_areOut_4 : decode cX6_areOut 4 = .ok (.iload_n 3, 1) := by decide +kernel
theorem dX6_areOut_5 : decode cX6_areOut 5 = .ok (.iconst 5, 1) := by decide +kernel
theorem dX6_areOut_6 : decode cX6_areOut 6 = .ok (.if_icmp .ge 36, 3) := by decide +kernel
theorem dX6_areOut_9 : decode cX6_areOut 9 = .ok (.iload_n 2, 1) := by decide +kernel
theorem dX6_areOut_10 : decode cX6_areOut 10 = .ok (.ifCond .eq 24, 3) := by decide +kernel
theorem dX6_areOut_13 : decode cX6_areOut 13 = .ok (.iload_n 1, 1) := by decide +kernel
theorem dX6_areOut_14 : decode cX6_areOut 14 = .ok (.iload_n 3, 1) := by decide +kernel
theorem dX6_areOut_15 : decode cX6_areOut 15 = .ok (.ishr, 1) := by decide +kernel
theorem dX6_areOut_16 : decode cX6_areOut 16 = .ok (.iconst 1, 1) := by decide +kernel
theorem dX6_areOut_17 : decode cX6_areOut 17 = .ok (.iand, 1) := by decide +kernel
theorem dX6_areOut_18 : decode cX6_areOut 18 = .ok (.ifCond .eq 12, 3) := by decide +kernel
theorem dX6_areOut_21 : decode cX6_areOut 21 = .ok (.iload_n 0, 1) := by decide +kernel
theorem dX6_areOut_22 : decode cX6_areOut 22 = .ok (.iload_n 3, 1) := by decide +kernel
theorem dX6_areOut_23 : decode cX6_areOut 23 = .ok (.invokestatic 85, 3) := by decide +kernel
theorem dX6_areOut_26 : decode cX6_areOut 26 = .ok (.iconst (-1), 1) := by decide +kernel
theorem dX6_areOut_27 : decode cX6_areOut 27 = .ok (.if_icmp .ne 7, 3) := by decide +kernel
theorem dX6_areOut_30 : decode cX6_areOut 30 = .ok (.iconst 1, 1) := by decide +kernel
theorem dX6_areOut_31 : decode cX6_areOut 31 = .ok (.goto 4, 3) := by decide +kernel
theorem dX6_areOut_34 : decode cX6_areOut 34 = .ok (.iconst 0, 1) := by decide +kernel
theorem dX6_areOut_35 : decode cX6_areOut 35 = .ok (.istore_n 2, 1) := by decide +kernel
theorem dX6_areOut_36 : decode cX6_areOut 36 = .ok (.iinc 3 1, 3) := by decide +kernel
theorem dX6_areOut_39 : decode cX6_areOut 39 = .ok (.goto (-35), 3) := by decide +kernel
theorem dX6_areOut_42 : decode cX6_areOut 42 = .ok (.iload_n 2, 1) := by decide +kernel
theorem dX6_areOut_43 : decode cX6_areOut 43 = .ok (.ireturn, 1) := by decide +kernel
set_option maxRecDepth 20000 in
theorem ggX6_soonestOf_X6_lay : GoodIn wsX6_soonestOf wsX6_lay := goodIn_r _ [9, 3, 10, 4, 2, 1, 11, 12, 13, 8, 14, 15, 16, 17, 18, 19, 20, 21, 22, 23, 24, 25, 26, 27, 28, 29, 30, 31, 32, 33, 34, 35, 36, 37, 38, 39, 40, 41, 42, 43, 44, 45, 46, 47, 48, 49, 50, 51, 52, 53, 57, 58, 59, 60, 61, 62, 63, 64, 65, 66, 67, 68, 69, 70, 71, 72, 73, 74, 75, 76, 77, 78, 79, 80] (by decide +kernel) (by decide +kernel)
set_option maxRecDepth 20000 in
theorem gX6_soonestOf_X6_lay : GoodIn wsX6_soonestOf (wsV RX6 143 RX6 yX6_lay wsX6_lay) := goodIn_app (goodIn_of _ (by decide +kernel)) ggX6_soonestOf_X6_lay
set_option maxRecDepth 20000 in
theorem ggX6_soonestOf_X6_areOut : GoodIn wsX6_soonestOf wsX6_areOut := goodIn_r _ [56, 41, 42, 8, 43, 44, 45, 46] (by decide +kernel) (by decide +kernel)
set_option maxRecDepth 20000 in
theorem gX6_soonestOf_X6_areOut : GoodIn wsX6_soonestOf (va_wsS RX6 146 yX6_areOut wsX6_areOut) := goodIn_app (goodIn_of _ (by decide +kernel)) ggX6_soonestOf_X6_areOut
theorem dX6_soonestOf_0 : decode cX6_soonestOf 0 = .ok (.aload_n 0, 1) := by decide +kernel
theorem dX6_soonestOf_1 : decode cX6_soonestOf 1 = .ok (.invokevirtual 143, 3) := by decide +kernel
theorem dX6_soonestOf_4 : decode cX6_soonestOf 4 = .ok (.iconst 0, 1) := by decide +kernel
theorem dX6_soonestOf_5 : decode cX6_soonestOf 5 = .ok (.istore_n 3, 1) := by decide +kernel
theorem dX6_soonestOf_6 : decode cX6_soonestOf 6 = .ok (.iload_n 3, 1) := by decide +kernel
theorem dX6_soonestOf_7 : decode cX6_soonestOf 7 = .ok (.aload_n 0, 1) := by decide +kernel
theorem dX6_soonestOf_8 : decode cX6_soonestOf 8 = .ok (.getfield 140, 3) := by decide +kernel
theorem dX6_soonestOf_11 : decode cX6_soonestOf 11 = .ok (.if_icmp .ge 52, 3) := by decide +kernel
theorem dX6_soonestOf_14 : decode cX6_soonestOf 14 = .ok (.aload_n 0, 1) := by decide +kernel
theorem dX6_soonestOf_15 : decode cX6_soonestOf 15 = .ok (.getfield 25, 3) := by decide +kernel
theorem dX6_soonestOf_18 : decode cX6_soonestOf 18 = .ok (.iload_n 3, 1) := by decide +kernel
theorem dX6_soonestOf_19 : decode cX6_soonestOf 19 = .ok (.iaload, 1) := by decide +kernel
theorem dX6_soonestOf_20 : decode cX6_soonestOf 20 = .ok (.iload_n 1, 1) := by decide +kernel
theorem dX6_soonestOf_21 : decode cX6_soonestOf 21 = .ok (.invokestatic 146, 3) := by decide +kernel
theorem dX6_soonestOf_24 : decode cX6_soonestOf 24 = .ok (.ifCond .eq 33, 3) := by decide +kernel
theorem dX6_soonestOf_27 : decode cX6_soonestOf 27 = .ok (.iload_n 2, 1) := by decide +kernel
theorem dX6_soonestOf_28 : decode cX6_soonestOf 28 = .ok (.ifCond .ne 17, 3) := by decide +kernel
theorem dX6_soonestOf_31 : decode cX6_soonestOf 31 = .ok (.aload_n 0, 1) := by decide +kernel
theorem dX6_soonestOf_32 : decode cX6_soonestOf 32 = .ok (.getfield 19, 3) := by decide +kernel
theorem dX6_soonestOf_35 : decode cX6_soonestOf 35 = .ok (.aload_n 0, 1) := by decide +kernel
theorem dX6_soonestOf_36 : decode cX6_soonestOf 36 = .ok (.getfield 25, 3) := by decide +kernel
theorem dX6_soonestOf_39 : decode cX6_soonestOf 39 = .ok (.iload_n 3, 1) := by decide +kernel
theorem dX6_soonestOf_40 : decode cX6_soonestOf 40 = .ok (.iaload, 1) := by decide +kernel
theorem dX6_soonestOf_41 : decode cX6_soonestOf 41 = .ok (.iaload, 1) := by decide +kernel
theorem dX6_soonestOf_42 : decode cX6_soonestOf 42 = .ok (.goto 14, 3) := by decide +kernel
theorem dX6_soonestOf_45 : decode cX6_soonestOf 45 = .ok (.aload_n 0, 1) := by decide +kernel
theorem dX6_soonestOf_46 : decode cX6_soonestOf 46 = .ok (.getfield 22, 3) := by decide +kernel
theorem dX6_soonestOf_49 : decode cX6_soonestOf 49 = .ok (.aload_n 0, 1) := by decide +kernel
theorem dX6_soonestOf_50 : decode cX6_soonestOf 50 = .ok (.getfield 25, 3) := by decide +kernel
theorem dX6_soonestOf_53 : decode cX6_soonestOf 53 = .ok (.iload_n 3, 1) := by decide +kernel
theorem dX6_soonestOf_54 : decode cX6_soonestOf 54 = .ok (.iaload, 1) := by decide +kernel
theorem dX6_soonestOf_55 : decode cX6_soonestOf 55 = .ok (.iaload, 1) := by decide +kernel
theorem dX6_soonestOf_56 : decode cX6_soonestOf 56 = .ok (.ireturn, 1) := by decide +kernel
theorem dX6_soonestOf_57 : decode cX6_soonestOf 57 = .ok (.iinc 3 1, 3) := by decide +kernel
theorem dX6_soonestOf_60 : decode cX6_soonestOf 60 = .ok (.goto (-54), 3) := by decide +kernel
theorem dX6_soonestOf_63 : decode cX6_soonestOf 63 = .ok (.iconst (-1), 1) := by decide +kernel
theorem dX6_soonestOf_64 : decode cX6_soonestOf 64 = .ok (.ireturn, 1) := by decide +kernel
set_option maxRecDepth 20000 in
theorem ggX6_soonest_X6_in : GoodIn wsX6_soonest wsX6_in := goodIn_r _ [5] (by decide +kernel) (by decide +kernel)
set_option maxRecDepth 20000 in
theorem gX6_soonest_X6_in : GoodIn wsX6_soonest (va_wsS RX6 43 yX6_in wsX6_in) := goodIn_app (goodIn_of _ (by decide +kernel)) ggX6_soonest_X6_in
set_option maxRecDepth 20000 in
theorem ggX6_soonest_X6_soonestOf : GoodIn wsX6_soonest wsX6_soonestOf := goodIn_r _ [9, 10, 11, 12, 13, 14, 15, 16, 4, 17, 18, 19, 20, 21, 22, 23, 24, 25, 26, 27, 2, 3, 5, 28, 29, 30, 31, 1, 32, 33, 34, 35, 36, 37, 38, 39, 40, 41, 42, 43, 44, 45, 46, 47, 48, 49, 50, 51, 52, 53, 54, 55, 56, 57, 58, 59, 60, 61, 62, 63, 64, 65, 66, 67, 68, 69, 70, 71, 72, 73, 74, 75, 76, 77, 78, 79, 80, 81, 82, 83, 84] (by decide +kernel) (by decide +kernel)
set_option maxRecDepth 20000 in
theorem gX6_soonest_X6_soonestOf : GoodIn wsX6_soonest (wsV RX6 150 RX6 yX6_soonestOf wsX6_soonestOf) := goodIn_app (goodIn_of _ (by decide +kernel)) ggX6_soonest_X6_soonestOf
theorem dX6_soonest_0 : decode cX6_soonest 0 = .ok (.iload_n 1, 1) := by decide +kernel
theorem dX6_soonest_1 : decode cX6_soonest 1 = .ok (.i2l, 1) := by decide +kernel
theorem dX6_soonest_2 : decode cX6_soonest 2 = .ok (.lconst 0, 1) := by decide +kernel
theorem dX6_soonest_3 : decode cX6_soonest 3 = .ok (.iconst 1, 1) := by decide +kernel
theorem dX6_soonest_4 : decode cX6_soonest 4 = .ok (.aload_n 0, 1) := by decide +kernel
theorem dX6_soonest_5 : decode cX6_soonest 5 = .ok (.getfield 72, 3) := by decide +kernel
theorem dX6_soonest_8 : decode cX6_soonest 8 = .ok (.ishl, 1) := by decide +kernel
theorem dX6_soonest_9 : decode cX6_soonest 9 = .ok (.iconst 1, 1) := by decide +kernel
theorem dX6_soonest_10 : decode cX6_soonest 10 = .ok (.isub, 1) := by decide +kernel
theorem dX6_soonest_11 : decode cX6_soonest 11 = .ok (.i2l, 1) := by decide +kernel
theorem dX6_soonest_12 : decode cX6_soonest 12 = .ok (.invokestatic 43, 3) := by decide +kernel
theorem dX6_soonest_15 : decode cX6_soonest 15 = .ok (.ifCond .eq 22, 3) := by decide +kernel
theorem dX6_soonest_18 : decode cX6_soonest 18 = .ok (.iload_n 2, 1) := by decide +kernel
theorem dX6_soonest_19 : decode cX6_soonest 19 = .ok (.i2l, 1) := by decide +kernel
theorem dX6_soonest_20 : decode cX6_soonest 20 = .ok (.lconst 0, 1) := by decide +kernel
theorem dX6_soonest_21 : decode cX6_soonest 21 = .ok (.lconst 1, 1) := by decide +kernel
theorem dX6_soonest_22 : decode cX6_soonest 22 = .ok (.invokestatic 43, 3) := by decide +kernel
theorem dX6_soonest_25 : decode cX6_soonest 25 = .ok (.ifCond .eq 12, 3) := by decide +kernel
theorem dX6_soonest_28 : decode cX6_soonest 28 = .ok (.aload_n 0, 1) := by decide +kernel
theorem dX6_soonest_29 : decode cX6_soonest 29 = .ok (.iload_n 1, 1) := by decide +kernel
theorem dX6_soonest_30 : decode cX6_soonest 30 = .ok (.iload_n 2, 1) := by decide +kernel
theorem dX6_soonest_31 : decode cX6_soonest 31 = .ok (.invokevirtual 150, 3) := by decide +kernel
theorem dX6_soonest_34 : decode cX6_soonest 34 = .ok (.goto 5, 3) := by decide +kernel
theorem dX6_soonest_37 : decode cX6_soonest 37 = .ok (.bipush (-102), 2) := by decide +kernel
theorem dX6_soonest_39 : decode cX6_soonest 39 = .ok (.ireturn, 1) := by decide +kernel
set_option maxRecDepth 20000 in
theorem ggX6_together_X6_isBeing : GoodIn wsX6_together wsX6_isBeing := goodIn_r _ [8, 9, 10, 11, 7, 12, 54, 55, 56, 57, 58, 59, 60, 61, 62, 63, 64, 65, 66, 67, 68, 69, 70, 71, 72, 73, 74, 75, 76, 77] (by decide +kernel) (by decide +kernel)
set_option maxRecDepth 20000 in
theorem gX6_together_X6_isBeing : GoodIn wsX6_together (wsV RX6 98 RX6 yX6_isBeing wsX6_isBeing) := goodIn_app (goodIn_of _ (by decide +kernel)) ggX6_together_X6_isBeing
set_option maxRecDepth 20000 in
theorem ggX6_together_X6_lay : GoodIn wsX6_together wsX6_lay := goodIn_r _ [16, 3, 17, 18, 2, 1, 19, 20, 21, 7, 22, 23, 24, 25, 26, 27, 10, 11, 12, 4, 5, 6, 8, 9, 28, 29, 30, 31, 32, 33, 34, 35, 36, 37, 38, 39, 40, 41, 42, 43, 44, 45, 46, 47, 48, 49, 50, 51, 52, 53, 54, 55, 56, 57, 58, 59, 60, 61, 62, 63, 64, 65, 66, 67, 68, 69, 70, 71, 72, 73, 74, 75, 76, 77] (by decide +kernel) (by decide +kernel)
set_option maxRecDepth 20000 in
theorem gX6_together_X6_lay : GoodIn wsX6_together (wsV RX6 143 RX6 yX6_lay wsX6_lay) := goodIn_app (goodIn_of _ (by decide +kernel)) ggX6_together_X6_lay
set_option maxRecDepth 20000 in
theorem ggX6_together_X6_holder : GoodIn wsX6_together wsX6_holder := goodIn_r _ [43, 44, 45, 7, 46] (by decide +kernel) (by decide +kernel)
set_option maxRecDepth 20000 in
theorem gX6_together_X6_holder : GoodIn wsX6_together (va_wsS RX6 85 yX6_holder wsX6_holder) := goodIn_app (goodIn_of _ (by decide +kernel)) ggX6_together_X6_holder
theorem dX6_together_0 : decode cX6_together 0 = .ok (.aload_n 0, 1) := by decide +kernel
theorem dX6_together_1 : decode cX6_together 1 = .ok (.iload_n 1, 1) := by decide +kernel
theorem dX6_together_2 : decode cX6_together 2 = .ok (.invokevirtual 98, 3) := by decide +kernel
theorem dX6_together_5 : decode cX6_together 5 = .ok (.ifCond .eq 16, 3) := by decide +kernel
theorem dX6_together_8 : decode cX6_together 8 = .ok (.aload_n 0, 1) := by decide +kernel
theorem dX6_together_9 : decode cX6_together 9 = .ok (.iload_n 2, 1) := by decide +kernel
theorem dX6_together_10 : decode cX6_together 10 = .ok (.invokevirtual 98, 3) := by decide +kernel
theorem dX6_together_13 : decode cX6_together 13 = .ok (.ifCond .eq 8, 3) := by decide +kernel
theorem dX6_together_16 : decode cX6_together 16 = .ok (.iload_n 1, 1) := by decide +kernel
theorem dX6_together_17 : decode cX6_together 17 = .ok (.iload_n 2, 1) := by decide +kernel
theorem dX6_together_18 : decode cX6_together 18 = .ok (.if_icmp .ne 6, 3) := by decide +kernel
theorem dX6_together_21 : decode cX6_together 21 = .ok (.bipush (-101), 2) := by decide +kernel
theorem dX6_together_23 : decode cX6_together 23 = .ok (.ireturn, 1) := by decide +kernel
theorem dX6_together_24 : decode cX6_together 24 = .ok (.aload_n 0, 1) := by decide +kernel
theorem dX6_together_25 : decode cX6_together 25 = .ok (.invokevirtual 143, 3) := by decide +kernel
theorem dX6_together_28 : decode cX6_together 28 = .ok (.iconst 0, 1) := by decide +kernel
theorem dX6_together_29 : decode cX6_together 29 = .ok (.istore_n 3, 1) := by decide +kernel
theorem dX6_together_30 : decode cX6_together 30 = .ok (.iload_n 3, 1) := by decide +kernel
theorem dX6_together_31 : decode cX6_together 31 = .ok (.aload_n 0, 1) := by decide +kernel
theorem dX6_together_32 : decode cX6_together 32 = .ok (.getfield 140, 3) := by decide +kernel
theorem dX6_together_35 : decode cX6_together 35 = .ok (.if_icmp .ge 44, 3) := by decide +kernel
theorem dX6_together_38 : decode cX6_together 38 = .ok (.aload_n 0, 1) := by decide +kernel
theorem dX6_together_39 : decode cX6_together 39 = .ok (.getfield 25, 3) := by decide +kernel
theorem dX6_together_42 : decode cX6_together 42 = .ok (.iload_n 3, 1) := by decide +kernel
theorem dX6_together_43 : decode cX6_together 43 = .ok (.iaload, 1) := by decide +kernel
theorem dX6_together_44 : decode cX6_together 44 = .ok (.iload_n 1, 1) := by decide +kernel
theorem dX6_together_45 : decode cX6_together 45 = .ok (.invokestatic 85, 3) := by decide +kernel
theorem dX6_together_48 : decode cX6_together 48 = .ok (.aload_n 0, 1) := by decide +kernel
theorem dX6_together_49 : decode cX6_together 49 = .ok (.getfield 25, 3) := by decide +kernel
theorem dX6_together_52 : decode cX6_together 52 = .ok (.iload_n 3, 1) := by decide +kernel
theorem dX6_together_53 : decode cX6_together 53 = .ok (.iaload, 1) := by decide +kernel
theorem dX6_together_54 : decode cX6_together 54 = .ok (.iload_n 2, 1) := by decide +kernel
theorem dX6_together_55 : decode cX6_together 55 = .ok (.invokestatic 85, 3) := by decide +kernel
theorem dX6_together_58 : decode cX6_together 58 = .ok (.if_icmp .ne 15, 3) := by decide +kernel
theorem dX6_together_61 : decode cX6_together 61 = .ok (.aload_n 0, 1) := by decide +kernel
theorem dX6_together_62 : decode cX6_together 62 = .ok (.getfield 19, 3) := by decide +kernel
theorem dX6_together_65 : decode cX6_together 65 = .ok (.aload_n 0, 1) := by decide +kernel
theorem dX6_together_66 : decode cX6_together 66 = .ok (.getfield 25, 3) := by decide +kernel
theorem dX6_together_69 : decode cX6_together 69 = .ok (.iload_n 3, 1) := by decide +kernel
theorem dX6_together_70 : decode cX6_together 70 = .ok (.iaload, 1) := by decide +kernel
theorem dX6_together_71 : decode cX6_together 71 = .ok (.iaload, 1) := by decide +kernel
theorem dX6_together_72 : decode cX6_together 72 = .ok (.ireturn, 1) := by decide +kernel
theorem dX6_together_73 : decode cX6_together 73 = .ok (.iinc 3 1, 3) := by decide +kernel
theorem dX6_together_76 : decode cX6_together 76 = .ok (.goto (-46), 3) := by decide +kernel
theorem dX6_together_79 : decode cX6_together 79 = .ok (.iconst (-1), 1) := by decide +kernel
theorem dX6_together_80 : decode cX6_together 80 = .ok (.ireturn, 1) := by decide +kernel
set_option maxRecDepth 20000 in
theorem ggX6_deepest_X6_walls : GoodIn wsX6_deepest wsX6_walls := goodIn_r _ [6, 7, 8, 5, 9, 10, 11, 12] (by decide +kernel) (by decide +kernel)
set_option maxRecDepth 20000 in
theorem gX6_deepest_X6_walls : GoodIn wsX6_deepest (va_wsS RX6 128 yX6_walls wsX6_walls) := goodIn_app (goodIn_of _ (by decide +kernel)) ggX6_deepest_X6_walls
theorem dX6_deepest_0 : decode cX6_deepest 0 = .ok (.iconst 0, 1) := by decide +kernel
theorem dX6_deepest_1 : decode cX6_deepest 1 = .ok (.istore_n 2, 1) := by decide +kernel
theorem dX6_deepest_2 : decode cX6_deepest 2 = .ok (.iconst 0, 1) := by decide +kernel
theorem dX6_deepest_3 : decode cX6_deepest 3 = .ok (.istore_n 3, 1) := by decide +kernel
theorem dX6_deepest_4 : decode cX6_deepest 4 = .ok (.iload_n 3, 1) := by decide +kernel
theorem dX6_deepest_5 : decode cX6_deepest 5 = .ok (.aload_n 0, 1) := by decide +kernel
theorem dX6_deepest_6 : decode cX6_deepest 6 = .ok (.getfield 140, 3) := by decide +kernel
theorem dX6_deepest_9 : decode cX6_deepest 9 = .ok (.if_icmp .ge 34, 3) := by decide +kernel
theorem dX6_deepest_12 : decode cX6_deepest 12 = .ok (.aload_n 0, 1) := by decide +kernel
theorem dX6_deepest_13 : decode cX6_deepest 13 = .ok (.getfield 25, 3) := by decide +kernel
theorem dX6_deepest_16 : decode cX6_deepest 16 = .ok (.iload_n 3, 1) := by decide +kernel
theorem dX6_deepest_17 : decode cX6_deepest 17 = .ok (.iaload, 1) := by decide +kernel
theorem dX6_deepest_18 : decode cX6_deepest 18 = .ok (.iload_n 1, 1) := by decide +kernel
theorem dX6_deepest_19 : decode cX6_deepest 19 = .ok (.invokestatic 128, 3) := by decide +kernel
theorem dX6_deepest_22 : decode cX6_deepest 22 = .ok (.istore 4, 2) := by decide +kernel
theorem dX6_deepest_24 : decode cX6_deepest 24 = .ok (.iload 4, 2) := by decide +kernel
theorem dX6_deepest_26 : decode cX6_deepest 26 = .ok (.iload_n 2, 1) := by decide +kernel
theorem dX6_deepest_27 : decode cX6_deepest 27 = .ok (.if_icmp .le 8, 3) := by decide +kernel
theorem dX6_deepest_30 : decode cX6_deepest 30 = .ok (.iload 4, 2) := by decide +kernel
theorem dX6_deepest_32 : decode cX6_deepest 32 = .ok (.goto 4, 3) := by decide +kernel
theorem dX6_deepest_35 : decode cX6_deepest 35 = .ok (.iload_n 2, 1) := by decide +kernel
theorem dX6_deepest_36 : decode cX6_deepest 36 = .ok (.istore_n 2, 1) := by decide +kernel
theorem dX6_deepest_37 : decode cX6_deepest 37 = .ok (.iinc 3 1, 3) := by decide +kernel
theorem dX6_deepest_40 : decode cX6_deepest 40 = .ok (.goto (-36), 3) := by decide +kernel
theorem dX6_deepest_43 : decode cX6_deepest 43 = .ok (.iload_n 2, 1) := by decide +kernel
theorem dX6_deepest_44 : decode cX6_deepest 44 = .ok (.ireturn, 1) := by decide +kernel
set_option maxRecDepth 20000 in
theorem ggX6_deep_X6_isBeing : GoodIn wsX6_deep wsX6_isBeing := goodIn_r _ [5, 6, 7, 8, 4, 9, 61, 62, 63, 64, 65, 66, 67, 68, 69, 70, 71, 72, 73, 74, 75, 76, 77, 78, 79, 80, 81, 82, 83, 84] (by decide +kernel) (by decide +kernel)
set_option maxRecDepth 20000 in
theorem gX6_deep_X6_isBeing : GoodIn wsX6_deep (wsV RX6 98 RX6 yX6_isBeing wsX6_isBeing) := goodIn_app (goodIn_of _ (by decide +kernel)) ggX6_deep_X6_isBeing
set_option maxRecDepth 20000 in
theorem ggX6_deep_X6_lay : GoodIn wsX6_deep wsX6_lay := goodIn_r _ [13, 14, 15, 16, 17, 18, 19, 20, 21, 4, 22, 23, 24, 25, 26, 27, 7, 8, 9, 1, 2, 3, 5, 6, 28, 29, 30, 31, 32, 33, 34, 35, 36, 37, 38, 39, 40, 41, 42, 43, 44, 45, 46, 47, 48, 49, 50, 51, 52, 53, 61, 62, 63, 64, 65, 66, 67, 68, 69, 70, 71, 72, 73, 74, 75, 76, 77, 78, 79, 80, 81, 82, 83, 84] (by decide +kernel) (by decide +kernel)
set_option maxRecDepth 20000 in
theorem gX6_deep_X6_lay : GoodIn wsX6_deep (wsV RX6 143 RX6 yX6_lay wsX6_lay) := goodIn_app (goodIn_of _ (by decide +kernel)) ggX6_deep_X6_lay
set_option maxRecDepth 20000 in
theorem ggX6_deep_X6_deepest : GoodIn wsX6_deep wsX6_deepest := goodIn_r _ [57, 18, 17, 58, 59, 4, 60, 41, 42, 43, 44, 45, 46, 61, 62, 63, 64, 65, 66, 67, 68, 69, 70, 71, 72, 73, 74, 75, 76, 77, 78, 79, 80, 81, 82, 83, 84] (by decide +kernel) (by decide +kernel)
set_option maxRecDepth 20000 in
theorem gX6_deep_X6_deepest : GoodIn wsX6_deep (wsV RX6 153 RX6 yX6_deepest wsX6_deepest) := goodIn_app (goodIn_of _ (by decide +kernel)) ggX6_deep_X6_deepest
theorem dX6_deep_0 : decode cX6_deep 0 = .ok (.aload_n 0, 1) := by decide +kernel
theorem dX6_deep_1 : decode cX6_deep 1 = .ok (.iload_n 1, 1) := by decide +kernel
theorem dX6_deep_2 : decode cX6_deep 2 = .ok (.invokevirtual 98, 3) := by decide +kernel
theorem dX6_deep_5 : decode cX6_deep 5 = .ok (.ifCond .ne 6, 3) := by decide +kernel
theorem dX6_deep_8 : decode cX6_deep 8 = .ok (.bipush (-101), 2) := by decide +kernel
theorem dX6_deep_10 : decode cX6_deep 10 = .ok (.ireturn, 1) := by decide +kernel
theorem dX6_deep_11 : decode cX6_deep 11 = .ok (.aload_n 0, 1) := by decide +kernel
theorem dX6_deep_12 : decode cX6_deep 12 = .ok (.invokevirtual 143, 3) := by decide +kernel
theorem dX6_deep_15 : decode cX6_deep 15 = .ok (.aload_n 0, 1) := by decide +kernel
theorem dX6_deep_16 : decode cX6_deep 16 = .ok (.iload_n 1, 1) := by decide +kernel
theorem dX6_deep_17 : decode cX6_deep 17 = .ok (.invokevirtual 153, 3) := by decide +kernel
theorem dX6_deep_20 : decode cX6_deep 20 = .ok (.ireturn, 1) := by decide +kernel
set_option maxRecDepth 20000 in
theorem ggX6_many_X6_lay : GoodIn wsX6_many wsX6_lay := goodIn_r _ [6, 7, 8, 9, 10, 1, 11, 12, 13, 5, 14, 15, 16, 17, 18, 19, 20, 21, 22, 23, 24, 25, 26, 27, 28, 29, 30, 31, 32, 33, 34, 35, 36, 37, 38, 39, 40, 41, 42, 43, 44, 45, 46, 47, 48, 49, 50, 51, 52, 53, 54, 55, 56, 57, 58, 59, 60, 61, 62, 63, 64, 65, 66, 67, 68, 69, 70, 71, 72, 73, 74, 75, 76, 77] (by decide +kernel) (by decide +kernel)
set_option maxRecDepth 20000 in
theorem gX6_many_X6_lay : GoodIn wsX6_many (wsV RX6 143 RX6 yX6_lay wsX6_lay) := goodIn_app (goodIn_of _ (by decide +kernel)) ggX6_many_X6_lay
theorem dX6_many_0 : decode cX6_many 0 = .ok (.aload_n 0, 1) := by decide +kernel
theorem dX6_many_1 : decode cX6_many 1 = .ok (.invokevirtual 143, 3) := by decide +kernel
theorem dX6_many_4 : decode cX6_many 4 = .ok (.aload_n 0, 1) := by decide +kernel
theorem dX6_many_5 : decode cX6_many 5 = .ok (.getfield 140, 3) := by decide +kernel
theorem dX6_many_8 : decode cX6_many 8 = .ok (.ireturn, 1) := by decide +kernel
set_option maxRecDepth 20000 in
theorem ggX6_nesting_X6_lay : GoodIn wsX6_nesting wsX6_lay := goodIn_r _ [6, 1, 7, 8, 9, 10, 11, 12, 13, 5, 14, 15, 16, 17, 18, 19, 20, 21, 22, 23, 24, 25, 26, 27, 28, 29, 30, 31, 32, 33, 34, 35, 36, 37, 38, 39, 40, 41, 42, 43, 44, 45, 46, 47, 48, 49, 50, 51, 52, 53, 54, 55, 56, 57, 58, 59, 60, 61, 62, 63, 64, 65, 66, 67, 68, 69, 70, 71, 72, 73, 74, 75, 76, 77] (by decide +kernel) (by decide +kernel)
set_option maxRecDepth 20000 in
theorem gX6_nesting_X6_lay : GoodIn wsX6_nesting (wsV RX6 143 RX6 yX6_lay wsX6_lay) := goodIn_app (goodIn_of _ (by decide +kernel)) ggX6_nesting_X6_lay
theorem dX6_nesting_0 : decode cX6_nesting 0 = .ok (.aload_n 0, 1) := by decide +kernel
theorem dX6_nesting_1 : decode cX6_nesting 1 = .ok (.invokevirtual 143, 3) := by decide +kernel
theorem dX6_nesting_4 : decode cX6_nesting 4 = .ok (.iload_n 1, 1) := by decide +kernel
theorem dX6_nesting_5 : decode cX6_nesting 5 = .ok (.istore_n 2, 1) := by decide +kernel
theorem dX6_nesting_6 : decode cX6_nesting 6 = .ok (.iconst 0, 1) := by decide +kernel
theorem dX6_nesting_7 : decode cX6_nesting 7 = .ok (.istore_n 3, 1) := by decide +kernel
theorem dX6_nesting_8 : decode cX6_nesting 8 = .ok (.iload_n 3, 1) := by decide +kernel
theorem dX6_nesting_9 : decode cX6_nesting 9 = .ok (.sipush 7776, 3) := by decide +kernel
theorem dX6_nesting_12 : decode cX6_nesting 12 = .ok (.if_icmp .ge 32, 3) := by decide +kernel
theorem dX6_nesting_15 : decode cX6_nesting 15 = .ok (.iload_n 2, 1) := by decide +kernel
theorem dX6_nesting_16 : decode cX6_nesting 16 = .ok (.ifCond .lt 28, 3) := by decide +kernel
theorem dX6_nesting_19 : decode cX6_nesting 19 = .ok (.aload_n 0, 1) := by decide +kernel
theorem dX6_nesting_20 : decode cX6_nesting 20 = .ok (.getfield 19, 3) := by decide +kernel
theorem dX6_nesting_23 : decode cX6_nesting 23 = .ok (.iload_n 3, 1) := by decide +kernel
theorem dX6_nesting_24 : decode cX6_nesting 24 = .ok (.iaload, 1) := by decide +kernel
theorem dX6_nesting_25 : decode cX6_nesting 25 = .ok (.iconst (-1), 1) := by decide +kernel
theorem dX6_nesting_26 : decode cX6_nesting 26 = .ok (.if_icmp .eq 12, 3) := by decide +kernel
theorem dX6_nesting_29 : decode cX6_nesting 29 = .ok (.iload_n 2, 1) := by decide +kernel
theorem dX6_nesting_30 : decode cX6_nesting 30 = .ok (.ifCond .ne 5, 3) := by decide +kernel
theorem dX6_nesting_33 : decode cX6_nesting 33 = .ok (.iload_n 3, 1) := by decide +kernel
theorem dX6_nesting_34 : decode cX6_nesting 34 = .ok (.ireturn, 1) := by decide +kernel
theorem dX6_nesting_35 : decode cX6_nesting 35 = .ok (.iinc 2 (-1), 3) := by decide +kernel
theorem dX6_nesting_38 : decode cX6_nesting 38 = .ok (.iinc 3 1, 3) := by decide +kernel
theorem dX6_nesting_41 : decode cX6_nesting 41 = .ok (.goto (-33), 3) := by decide +kernel
theorem dX6_nesting_44 : decode cX6_nesting 44 = .ok (.bipush (-102), 2) := by decide +kernel
theorem dX6_nesting_46 : decode cX6_nesting 46 = .ok (.ireturn, 1) := by decide +kernel
set_option maxRecDepth 20000 in
theorem ggX6_told_X6_isBeing : GoodIn wsX6_told wsX6_isBeing := goodIn_r _ [8, 1, 9, 10, 7, 11, 12, 13, 14, 15, 16, 17, 18, 19, 20, 21, 22, 23, 24, 25, 26, 27, 28, 29, 30, 31, 32, 33, 34, 35] (by decide +kernel) (by decide +kernel)
set_option maxRecDepth 20000 in
theorem gX6_told_X6_isBeing : GoodIn wsX6_told (wsV RX6 98 RX6 yX6_isBeing wsX6_isBeing) := goodIn_app (goodIn_of _ (by decide +kernel)) ggX6_told_X6_isBeing
set_option maxRecDepth 20000 in
theorem ggX6_told_X6_in : GoodIn wsX6_told wsX6_in := goodIn_r _ [11] (by decide +kernel) (by decide +kernel)
set_option maxRecDepth 20000 in
theorem gX6_told_X6_in : GoodIn wsX6_told (va_wsS RX6 43 yX6_in wsX6_in) := goodIn_app (goodIn_of _ (by decide +kernel)) ggX6_told_X6_in
theorem dX6_told_0 : decode cX6_told 0 = .ok (.aload_n 0, 1) := by decide +kernel
theorem dX6_told_1 : decode cX6_told 1 = .ok (.iload_n 1, 1) := by decide +kernel
theorem dX6_told_2 : decode cX6_told 2 = .ok (.invokevirtual 98, 3) := by decide +kernel
theorem dX6_told_5 : decode cX6_told 5 = .ok (.ifCond .ne 6, 3) := by decide +kernel
theorem dX6_told_8 : decode cX6_told 8 = .ok (.bipush (-101), 2) := by decide +kernel
theorem dX6_told_10 : decode cX6_told 10 = .ok (.ireturn, 1) := by decide +kernel
theorem dX6_told_11 : decode cX6_told 11 = .ok (.iload_n 2, 1) := by decide +kernel
theorem dX6_told_12 : decode cX6_told 12 = .ok (.i2l, 1) := by decide +kernel
theorem dX6_told_13 : decode cX6_told 13 = .ok (.lconst 0, 1) := by decide +kernel
theorem dX6_told_14 : decode cX6_told 14 = .ok (.iconst 1, 1) := by decide +kernel
theorem dX6_told_15 : decode cX6_told 15 = .ok (.aload_n 0, 1) := by decide +kernel
theorem dX6_told_16 : decode cX6_told 16 = .ok (.getfield 72, 3) := by decide +kernel
theorem dX6_told_19 : decode cX6_told 19 = .ok (.ishl, 1) := by decide +kernel
theorem dX6_told_20 : decode cX6_told 20 = .ok (.iconst 1, 1) := by decide +kernel
theorem dX6_told_21 : decode cX6_told 21 = .ok (.isub, 1) := by decide +kernel
theorem dX6_told_22 : decode cX6_told 22 = .ok (.i2l, 1) := by decide +kernel
theorem dX6_told_23 : decode cX6_told 23 = .ok (.invokestatic 43, 3) := by decide +kernel
theorem dX6_told_26 : decode cX6_told 26 = .ok (.ifCond .ne 6, 3) := by decide +kernel
theorem dX6_told_29 : decode cX6_told 29 = .ok (.bipush (-102), 2) := by decide +kernel
theorem dX6_told_31 : decode cX6_told 31 = .ok (.ireturn, 1) := by decide +kernel
theorem dX6_told_32 : decode cX6_told 32 = .ok (.aload_n 0, 1) := by decide +kernel
theorem dX6_told_33 : decode cX6_told 33 = .ok (.getfield 156, 3) := by decide +kernel
theorem dX6_told_36 : decode cX6_told 36 = .ok (.iconst 4, 1) := by decide +kernel
theorem dX6_told_37 : decode cX6_told 37 = .ok (.if_icmp .ne 6, 3) := by decide +kernel
theorem dX6_told_40 : decode cX6_told 40 = .ok (.bipush (-104), 2) := by decide +kernel
theorem dX6_told_42 : decode cX6_told 42 = .ok (.ireturn, 1) := by decide +kernel
theorem dX6_told_43 : decode cX6_told 43 = .ok (.aload_n 0, 1) := by decide +kernel
theorem dX6_told_44 : decode cX6_told 44 = .ok (.getfield 28, 3) := by decide +kernel
theorem dX6_told_47 : decode cX6_told 47 = .ok (.iconst 2, 1) := by decide +kernel
theorem dX6_told_48 : decode cX6_told 48 = .ok (.aload_n 0, 1) := by decide +kernel
theorem dX6_told_49 : decode cX6_told 49 = .ok (.getfield 156, 3) := by decide +kernel
theorem dX6_told_52 : decode cX6_told 52 = .ok (.imul, 1) := by decide +kernel
theorem dX6_told_53 : decode cX6_told 53 = .ok (.iload_n 1, 1) := by decide +kernel
theorem dX6_told_54 : decode cX6_told 54 = .ok (.iastore, 1) := by decide +kernel
theorem dX6_told_55 : decode cX6_told 55 = .ok (.aload_n 0, 1) := by decide +kernel
theorem dX6_told_56 : decode cX6_told 56 = .ok (.getfield 28, 3) := by decide +kernel
theorem dX6_told_59 : decode cX6_told 59 = .ok (.iconst 2, 1) := by decide +kernel
theorem dX6_told_60 : decode cX6_told 60 = .ok (.aload_n 0, 1) := by decide +kernel
theorem dX6_told_61 : decode cX6_told 61 = .ok (.getfield 156, 3) := by decide +kernel
theorem dX6_told_64 : decode cX6_told 64 = .ok (.imul, 1) := by decide +kernel
theorem dX6_told_65 : decode cX6_told 65 = .ok (.iconst 1, 1) := by decide +kernel
theorem dX6_told_66 : decode cX6_told 66 = .ok (.iadd, 1) := by decide +kernel
theorem dX6_told_67 : decode cX6_told 67 = .ok (.iload_n 2, 1) := by decide +kernel
theorem dX6_told_68 : decode cX6_told 68 = .ok (.iastore, 1) := by decide +kernel
theorem dX6_told_69 : decode cX6_told 69 = .ok (.aload_n 0, 1) := by decide +kernel
theorem dX6_told_70 : decode cX6_told 70 = .ok (.dup, 1) := by decide +kernel
theorem dX6_told_71 : decode cX6_told 71 = .ok (.getfield 156, 3) := by decide +kernel
theorem dX6_told_74 : decode cX6_told 74 = .ok (.iconst 1, 1) := by decide +kernel
theorem dX6_told_75 : decode cX6_told 75 = .ok (.iadd, 1) := by decide +kernel
theorem dX6_told_76 : decode cX6_told 76 = .ok (.putfield 156, 3) := by decide +kernel
theorem dX6_told_79 : decode cX6_told 79 = .ok (.aload_n 0, 1) := by decide +kernel
theorem dX6_told_80 : decode cX6_told 80 = .ok (.getfield 156, 3) := by decide +kernel
theorem dX6_told_83 : decode cX6_told 83 = .ok (.ireturn, 1) := by decide +kernel
theorem dX6_forget_0 : decode cX6_forget 0 = .ok (.aload_n 0, 1) := by decide +kernel
theorem dX6_forget_1 : decode cX6_forget 1 = .ok (.getfield 156, 3) := by decide +kernel
theorem dX6_forget_4 : decode cX6_forget 4 = .ok (.istore_n 1, 1) := by decide +kernel
theorem dX6_forget_5 : decode cX6_forget 5 = .ok (.aload_n 0, 1) := by decide +kernel
theorem dX6_forget_6 : decode cX6_forget 6 = .ok (.iconst 0, 1) := by decide +kernel
theorem dX6_forget_7 : decode cX6_forget 7 = .ok (.putfield 156, 3) := by decide +kernel
theorem dX6_forget_10 : decode cX6_forget 10 = .ok (.iload_n 1, 1) := by decide +kernel
theorem dX6_forget_11 : decode cX6_forget 11 = .ok (.ireturn, 1) := by decide +kernel
set_option maxRecDepth 20000 in
theorem ggX6_isToldSo_X6_heardBy : GoodIn wsX6_isToldSo wsX6_heardBy := goodIn_r _ [7, 8, 9, 10, 6, 11, 12, 13, 14, 15, 16, 17, 18, 19, 20, 21, 22, 23, 24, 25, 26, 27, 28, 29, 30, 31, 32, 33, 34, 35, 36, 37, 38, 39, 40, 41] (by decide +kernel) (by decide +kernel)
set_option maxRecDepth 20000 in
theorem gX6_isToldSo_X6_heardBy : GoodIn wsX6_isToldSo (wsV RX6 131 RX6 yX6_heardBy wsX6_heardBy) := goodIn_app (goodIn_of _ (by decide +kernel)) ggX6_isToldSo_X6_heardBy
theorem dX6_isToldSo_0 : decode cX6_isToldSo 0 = .ok (.iconst 1, 1) := by decide +kernel
theorem dX6_isToldSo_1 : decode cX6_isToldSo 1 = .ok (.istore_n 2, 1) := by decide +kernel
theorem dX6_isToldSo_2 : decode cX6_isToldSo 2 = .ok (.iconst 0, 1) := by decide +kernel
theorem dX6_isToldSo_3 : decode cX6_isToldSo 3 = .ok (.istore_n 3, 1) := by decide +kernel
theorem dX6_isToldSo_4 : decode cX6_isToldSo 4 = .ok (.iload_n 3, 1) := by decide +kernel
theorem dX6_isToldSo_5 : decode cX6_isToldSo 5 = .ok (.aload_n 0, 1) := by decide +kernel
theorem dX6_isToldSo_6 : decode cX6_isToldSo 6 = .ok (.getfield 156, 3) := by decide +kernel
theorem dX6_isToldSo_9 : decode cX6_isToldSo 9 = .ok (.if_icmp .ge 45, 3) := by decide +kernel
theorem dX6_isToldSo_12 : decode cX6_isToldSo 12 = .ok (.iload_n 2, 1) := by decide +kernel
theorem dX6_isToldSo_13 : decode cX6_isToldSo 13 = .ok (.ifCond .eq 33, 3) := by decide +kernel
theorem dX6_isToldSo_16 : decode cX6_isToldSo 16 = .ok (.aload_n 0, 1) := by decide +kernel
theorem dX6_isToldSo_17 : decode cX6_isToldSo 17 = .ok (.iload_n 1, 1) := by decide +kernel
theorem dX6_isToldSo_18 : decode cX6_isToldSo 18 = .ok (.aload_n 0, 1) := by decide +kernel
theorem dX6_isToldSo_19 : decode cX6_isToldSo 19 = .ok (.getfield 28, 3) := by decide +kernel
theorem dX6_isToldSo_22 : decode cX6_isToldSo 22 = .ok (.iconst 2, 1) := by decide +kernel
theorem dX6_isToldSo_23 : decode cX6_isToldSo 23 = .ok (.iload_n 3, 1) := by decide +kernel
theorem dX6_isToldSo_24 : decode cX6_isToldSo 24 = .ok (.imul, 1) := by decide +kernel
theorem dX6_isToldSo_25 : decode cX6_isToldSo 25 = .ok (.iaload, 1) := by decide +kernel
theorem dX6_isToldSo_26 : decode cX6_isToldSo 26 = .ok (.invokevirtual 131, 3) := by decide +kernel
theorem dX6_isToldSo_29 : decode cX6_isToldSo 29 = .ok (.aload_n 0, 1) := by decide +kernel
theorem dX6_isToldSo_30 : decode cX6_isToldSo 30 = .ok (.getfield 28, 3) := by decide +kernel
theorem dX6_isToldSo_33 : decode cX6_isToldSo 33 = .ok (.iconst 2, 1) := by decide +kernel
theorem dX6_isToldSo_34 : decode cX6_isToldSo 34 = .ok (.iload_n 3, 1) := by decide +kernel
theorem dX6_isToldSo_35 : decode cX6_isToldSo 35 = .ok (.imul, 1) := by decide +kernel
theorem dX6_isToldSo_36 : decode cX6_isToldSo 36 = .ok (.iconst 1, 1) := by decide +kernel
theorem dX6_isToldSo_37 : decode cX6_isToldSo 37 = .ok (.iadd, 1) := by decide +kernel
theorem dX6_isToldSo_38 : decode cX6_isToldSo 38 = .ok (.iaload, 1) := by decide +kernel
theorem dX6_isToldSo_39 : decode cX6_isToldSo 39 = .ok (.if_icmp .ne 7, 3) := by decide +kernel
theorem dX6_isToldSo_42 : decode cX6_isToldSo 42 = .ok (.iconst 1, 1) := by decide +kernel
theorem dX6_isToldSo_43 : decode cX6_isToldSo 43 = .ok (.goto 4, 3) := by decide +kernel
theorem dX6_isToldSo_46 : decode cX6_isToldSo 46 = .ok (.iconst 0, 1) := by decide +kernel
theorem dX6_isToldSo_47 : decode cX6_isToldSo 47 = .ok (.istore_n 2, 1) := by decide +kernel
theorem dX6_isToldSo_48 : decode cX6_isToldSo 48 = .ok (.iinc 3 1, 3) := by decide +kernel
theorem dX6_isToldSo_51 : decode cX6_isToldSo 51 = .ok (.goto (-47), 3) := by decide +kernel
theorem dX6_isToldSo_54 : decode cX6_isToldSo 54 = .ok (.iload_n 2, 1) := by decide +kernel
theorem dX6_isToldSo_55 : decode cX6_isToldSo 55 = .ok (.ireturn, 1) := by decide +kernel
set_option maxRecDepth 20000 in
theorem ggX6_fitMany_X6_isToldSo : GoodIn wsX6_fitMany wsX6_isToldSo := goodIn_r _ [7, 8, 9, 10, 11, 12, 6, 13, 14, 15, 16, 17, 18, 19, 20, 21, 22, 23, 24, 25, 26, 27, 28, 29, 30, 31, 32, 33, 34, 35, 36, 37, 38, 39, 40, 41, 42, 43, 44, 45, 46, 47] (by decide +kernel) (by decide +kernel)
set_option maxRecDepth 20000 in
theorem gX6_fitMany_X6_isToldSo : GoodIn wsX6_fitMany (wsV RX6 159 RX6 yX6_isToldSo wsX6_isToldSo) := goodIn_app (goodIn_of _ (by decide +kernel)) ggX6_fitMany_X6_isToldSo
theorem dX6_fitMany_0 : decode cX6_fitMany 0 = .ok (.iconst 0, 1) := by decide +kernel
theorem dX6_fitMany_1 : decode cX6_fitMany 1 = .ok (.istore_n 1, 1) := by decide +kernel
theorem dX6_fitMany_2 : decode cX6_fitMany 2 = .ok (.iconst 0, 1) := by decide +kernel
theorem dX6_fitMany_3 : decode cX6_fitMany 3 = .ok (.istore_n 2, 1) := by decide +kernel
theorem dX6_fitMany_4 : decode cX6_fitMany 4 = .ok (.iload_n 2, 1) := by decide +kernel
theorem dX6_fitMany_5 : decode cX6_fitMany 5 = .ok (.aload_n 0, 1) := by decide +kernel
theorem dX6_fitMany_6 : decode cX6_fitMany 6 = .ok (.getfield 140, 3) := by decide +kernel
theorem dX6_fitMany_9 : decode cX6_fitMany 9 = .ok (.if_icmp .ge 30, 3) := by decide +kernel
theorem dX6_fitMany_12 : decode cX6_fitMany 12 = .ok (.iload_n 1, 1) := by decide +kernel
theorem dX6_fitMany_13 : decode cX6_fitMany 13 = .ok (.aload_n 0, 1) := by decide +kernel
theorem dX6_fitMany_14 : decode cX6_fitMany 14 = .ok (.aload_n 0, 1) := by decide +kernel
theorem dX6_fitMany_15 : decode cX6_fitMany 15 = .ok (.getfield 25, 3) := by decide +kernel
theorem dX6_fitMany_18 : decode cX6_fitMany 18 = .ok (.iload_n 2, 1) := by decide +kernel
theorem dX6_fitMany_19 : decode cX6_fitMany 19 = .ok (.iaload, 1) := by decide +kernel
theorem dX6_fitMany_20 : decode cX6_fitMany 20 = .ok (.invokevirtual 159, 3) := by decide +kernel
theorem dX6_fitMany_23 : decode cX6_fitMany 23 = .ok (.ifCond .eq 7, 3) := by decide +kernel
theorem dX6_fitMany_26 : decode cX6_fitMany 26 = .ok (.iconst 1, 1) := by decide +kernel
theorem dX6_fitMany_27 : decode cX6_fitMany 27 = .ok (.goto 4, 3) := by decide +kernel
theorem dX6_fitMany_30 : decode cX6_fitMany 30 = .ok (.iconst 0, 1) := by decide +kernel
theorem dX6_fitMany_31 : decode cX6_fitMany 31 = .ok (.iadd, 1) := by decide +kernel
theorem dX6_fitMany_32 : decode cX6_fitMany 32 = .ok (.istore_n 1, 1) := by decide +kernel
theorem dX6_fitMany_33 : decode cX6_fitMany 33 = .ok (.iinc 2 1, 3) := by decide +kernel
theorem dX6_fitMany_36 : decode cX6_fitMany 36 = .ok (.goto (-32), 3) := by decide +kernel
theorem dX6_fitMany_39 : decode cX6_fitMany 39 = .ok (.iload_n 1, 1) := by decide +kernel
theorem dX6_fitMany_40 : decode cX6_fitMany 40 = .ok (.ireturn, 1) := by decide +kernel
set_option maxRecDepth 20000 in
theorem ggX6_fits_X6_lay : GoodIn wsX6_fits wsX6_lay := goodIn_r _ [5, 6, 7, 8, 9, 10, 11, 12, 13, 4, 14, 15, 16, 17, 18, 19, 20, 21, 22, 23, 24, 25, 26, 27, 28, 29, 30, 31, 32, 33, 34, 35, 36, 37, 38, 39, 40, 41, 42, 43, 44, 45, 46, 47, 48, 49, 50, 51, 52, 53, 71, 72, 73, 74, 75, 76, 77, 78, 79, 80, 81, 82, 83, 84, 85, 86, 87, 88, 89, 90, 91, 92, 93, 94] (by decide +kernel) (by decide +kernel)
set_option maxRecDepth 20000 in
theorem gX6_fits_X6_lay : GoodIn wsX6_fits (wsV RX6 143 RX6 yX6_lay wsX6_lay) := goodIn_app (goodIn_of _ (by decide +kernel)) ggX6_fits_X6_lay
set_option maxRecDepth 20000 in
theorem ggX6_fits_X6_fitMany : GoodIn wsX6_fits wsX6_fitMany := goodIn_r _ [57, 10, 9, 58, 59, 60, 4, 61, 62, 63, 64, 65, 66, 67, 27, 68, 69, 70, 41, 42, 43, 44, 45, 46, 71, 72, 73, 74, 75, 76, 77, 78, 79, 80, 81, 82, 83, 84, 85, 86, 87, 88, 89, 90, 91, 92, 93, 94] (by decide +kernel) (by decide +kernel)
set_option maxRecDepth 20000 in
theorem gX6_fits_X6_fitMany : GoodIn wsX6_fits (wsV RX6 162 RX6 yX6_fitMany wsX6_fitMany) := goodIn_app (goodIn_of _ (by decide +kernel)) ggX6_fits_X6_fitMany
theorem dX6_fits_0 : decode cX6_fits 0 = .ok (.aload_n 0, 1) := by decide +kernel
theorem dX6_fits_1 : decode cX6_fits 1 = .ok (.invokevirtual 143, 3) := by decide +kernel
theorem dX6_fits_4 : decode cX6_fits 4 = .ok (.aload_n 0, 1) := by decide +kernel
theorem dX6_fits_5 : decode cX6_fits 5 = .ok (.invokevirtual 162, 3) := by decide +kernel
theorem dX6_fits_8 : decode cX6_fits 8 = .ok (.ireturn, 1) := by decide +kernel
set_option maxRecDepth 20000 in
theorem ggX6_sure_X6_isBeing : GoodIn wsX6_sure wsX6_isBeing := goodIn_r _ [7, 8, 9, 10, 6, 11, 67, 68, 69, 70, 71, 72, 73, 74, 75, 76, 77, 78, 79, 80, 81, 82, 83, 84, 85, 86, 87, 88, 89, 90] (by decide +kernel) (by decide +kernel)
set_option maxRecDepth 20000 in
theorem gX6_sure_X6_isBeing : GoodIn wsX6_sure (wsV RX6 98 RX6 yX6_isBeing wsX6_isBeing) := goodIn_app (goodIn_of _ (by decide +kernel)) ggX6_sure_X6_isBeing
set_option maxRecDepth 20000 in
theorem ggX6_sure_X6_lay : GoodIn wsX6_sure wsX6_lay := goodIn_r _ [15, 16, 17, 18, 2, 1, 19, 20, 21, 6, 22, 23, 24, 25, 26, 27, 9, 10, 11, 3, 4, 5, 7, 8, 28, 29, 30, 31, 32, 33, 34, 35, 36, 37, 38, 39, 40, 41, 42, 43, 44, 45, 46, 47, 48, 49, 50, 51, 52, 53, 67, 68, 69, 70, 71, 72, 73, 74, 75, 76, 77, 78, 79, 80, 81, 82, 83, 84, 85, 86, 87, 88, 89, 90] (by decide +kernel) (by decide +kernel)
set_option maxRecDepth 20000 in
theorem gX6_sure_X6_lay : GoodIn wsX6_sure (wsV RX6 143 RX6 yX6_lay wsX6_lay) := goodIn_app (goodIn_of _ (by decide +kernel)) ggX6_sure_X6_lay
set_option maxRecDepth 20000 in
theorem ggX6_sure_X6_isToldSo : GoodIn wsX6_sure wsX6_isToldSo := goodIn_r _ [57, 58, 59, 60, 61, 62, 6, 63, 8, 64, 65, 66, 41, 42, 43, 44, 45, 46, 67, 68, 69, 70, 71, 72, 73, 74, 75, 76, 77, 78, 79, 80, 81, 82, 83, 84, 85, 86, 87, 88, 89, 90] (by decide +kernel) (by decide +kernel)
set_option maxRecDepth 20000 in
theorem gX6_sure_X6_isToldSo : GoodIn wsX6_sure (wsV RX6 159 RX6 yX6_isToldSo wsX6_isToldSo) := goodIn_app (goodIn_of _ (by decide +kernel)) ggX6_sure_X6_isToldSo
set_option maxRecDepth 20000 in
theorem ggX6_sure_X6_holder : GoodIn wsX6_sure wsX6_holder := goodIn_r _ [43, 44, 45, 6, 46] (by decide +kernel) (by decide +kernel)
set_option maxRecDepth 20000 in
theorem gX6_sure_X6_holder : GoodIn wsX6_sure (va_wsS RX6 85 yX6_holder wsX6_holder) := goodIn_app (goodIn_of _ (by decide +kernel)) ggX6_sure_X6_holder
theorem dX6_sure_0 : decode cX6_sure 0 = .ok (.aload_n 0, 1) := by decide +kernel
theorem dX6_sure_1 : decode cX6_sure 1 = .ok (.iload_n 1, 1) := by decide +kernel
theorem dX6_sure_2 : decode cX6_sure 2 = .ok (.invokevirtual 98, 3) := by decide +kernel
theorem dX6_sure_5 : decode cX6_sure 5 = .ok (.ifCond .ne 6, 3) := by decide +kernel
theorem dX6_sure_8 : decode cX6_sure 8 = .ok (.bipush (-101), 2) := by decide +kernel
theorem dX6_sure_10 : decode cX6_sure 10 = .ok (.ireturn, 1) := by decide +kernel
theorem dX6_sure_11 : decode cX6_sure 11 = .ok (.aload_n 0, 1) := by decide +kernel
theorem dX6_sure_12 : decode cX6_sure 12 = .ok (.invokevirtual 143, 3) := by decide +kernel
theorem dX6_sure_15 : decode cX6_sure 15 = .ok (.iconst 0, 1) := by decide +kernel
theorem dX6_sure_16 : decode cX6_sure 16 = .ok (.istore_n 2, 1) := by decide +kernel
theorem dX6_sure_17 : decode cX6_sure 17 = .ok (.iconst 0, 1) := by decide +kernel
theorem dX6_sure_18 : decode cX6_sure 18 = .ok (.istore_n 3, 1) := by decide +kernel
theorem dX6_sure_19 : decode cX6_sure 19 = .ok (.iload_n 3, 1) := by decide +kernel
theorem dX6_sure_20 : decode cX6_sure 20 = .ok (.aload_n 0, 1) := by decide +kernel
theorem dX6_sure_21 : decode cX6_sure 21 = .ok (.getfield 140, 3) := by decide +kernel
theorem dX6_sure_24 : decode cX6_sure 24 = .ok (.if_icmp .ge 43, 3) := by decide +kernel
theorem dX6_sure_27 : decode cX6_sure 27 = .ok (.iload_n 2, 1) := by decide +kernel
theorem dX6_sure_28 : decode cX6_sure 28 = .ok (.aload_n 0, 1) := by decide +kernel
theorem dX6_sure_29 : decode cX6_sure 29 = .ok (.aload_n 0, 1) := by decide +kernel
theorem dX6_sure_30 : decode cX6_sure 30 = .ok (.getfield 25, 3) := by decide +kernel
theorem dX6_sure_33 : decode cX6_sure 33 = .ok (.iload_n 3, 1) := by decide +kernel
theorem dX6_sure_34 : decode cX6_sure 34 = .ok (.iaload, 1) := by decide +kernel
theorem dX6_sure_35 : decode cX6_sure 35 = .ok (.invokevirtual 159, 3) := by decide +kernel
theorem dX6_sure_38 : decode cX6_sure 38 = .ok (.ifCond .eq 20, 3) := by decide +kernel
theorem dX6_sure_41 : decode cX6_sure 41 = .ok (.iconst 1, 1) := by decide +kernel
theorem dX6_sure_42 : decode cX6_sure 42 = .ok (.aload_n 0, 1) := by decide +kernel
theorem dX6_sure_43 : decode cX6_sure 43 = .ok (.getfield 25, 3) := by decide +kernel
theorem dX6_sure_46 : decode cX6_sure 46 = .ok (.iload_n 3, 1) := by decide +kernel
theorem dX6_sure_47 : decode cX6_sure 47 = .ok (.iaload, 1) := by decide +kernel
theorem dX6_sure_48 : decode cX6_sure 48 = .ok (.iload_n 1, 1) := by decide +kernel
theorem dX6_sure_49 : decode cX6_sure 49 = .ok (.invokestatic 85, 3) := by decide +kernel
theorem dX6_sure_52 : decode cX6_sure 52 = .ok (.iconst 1, 1) := by decide +kernel
theorem dX6_sure_53 : decode cX6_sure 53 = .ok (.iadd, 1) := by decide +kernel
theorem dX6_sure_54 : decode cX6_sure 54 = .ok (.ishl, 1) := by decide +kernel
theorem dX6_sure_55 : decode cX6_sure 55 = .ok (.goto 4, 3) := by decide +kernel
theorem dX6_sure_58 : decode cX6_sure 58 = .ok (.iconst 0, 1) := by decide +kernel
theorem dX6_sure_59 : decode cX6_sure 59 = .ok (.ior, 1) := by decide +kernel
theorem dX6_sure_60 : decode cX6_sure 60 = .ok (.istore_n 2, 1) := by decide +kernel
theorem dX6_sure_61 : decode cX6_sure 61 = .ok (.iinc 3 1, 3) := by decide +kernel
theorem dX6_sure_64 : decode cX6_sure 64 = .ok (.goto (-45), 3) := by decide +kernel
theorem dX6_sure_67 : decode cX6_sure 67 = .ok (.iconst 0, 1) := by decide +kernel
theorem dX6_sure_68 : decode cX6_sure 68 = .ok (.istore_n 3, 1) := by decide +kernel
theorem dX6_sure_69 : decode cX6_sure 69 = .ok (.iload_n 3, 1) := by decide +kernel
theorem dX6_sure_70 : decode cX6_sure 70 = .ok (.bipush 6, 2) := by decide +kernel
theorem dX6_sure_72 : decode cX6_sure 72 = .ok (.if_icmp .ge 20, 3) := by decide +kernel
theorem dX6_sure_75 : decode cX6_sure 75 = .ok (.iload_n 2, 1) := by decide +kernel
theorem dX6_sure_76 : decode cX6_sure 76 = .ok (.iconst 1, 1) := by decide +kernel
theorem dX6_sure_77 : decode cX6_sure 77 = .ok (.iload_n 3, 1) := by decide +kernel
theorem dX6_sure_78 : decode cX6_sure 78 = .ok (.ishl, 1) := by decide +kernel
theorem dX6_sure_79 : decode cX6_sure 79 = .ok (.if_icmp .ne 7, 3) := by decide +kernel
theorem dX6_sure_82 : decode cX6_sure 82 = .ok (.iload_n 3, 1) := by decide +kernel
theorem dX6_sure_83 : decode cX6_sure 83 = .ok (.iconst 1, 1) := by decide +kernel
theorem dX6_sure_84 : decode cX6_sure 84 = .ok (.isub, 1) := by decide +kernel
theorem dX6_sure_85 : decode cX6_sure 85 = .ok (.ireturn, 1) := by decide +kernel
theorem dX6_sure_86 : decode cX6_sure 86 = .ok (.iinc 3 1, 3) := by decide +kernel
theorem dX6_sure_89 : decode cX6_sure 89 = .ok (.goto (-20), 3) := by decide +kernel
theorem dX6_sure_92 : decode cX6_sure 92 = .ok (.bipush (-2), 2) := by decide +kernel
theorem dX6_sure_94 : decode cX6_sure 94 = .ok (.ireturn, 1) := by decide +kernel
set_option maxRecDepth 20000 in
theorem ggX6_worstOf_X6_isToldSo : GoodIn wsX6_worstOf wsX6_isToldSo := goodIn_r _ [8, 9, 10, 11, 12, 13, 7, 14, 15, 16, 17, 18, 19, 20, 21, 22, 23, 24, 25, 26, 27, 28, 29, 30, 31, 32, 33, 34, 35, 36, 37, 38, 39, 40, 41, 42, 43, 44, 45, 46, 47, 48] (by decide +kernel) (by decide +kernel)
set_option maxRecDepth 20000 in
theorem gX6_worstOf_X6_isToldSo : GoodIn wsX6_worstOf (wsV RX6 159 RX6 yX6_isToldSo wsX6_isToldSo) := goodIn_app (goodIn_of _ (by decide +kernel)) ggX6_worstOf_X6_isToldSo
set_option maxRecDepth 20000 in
theorem ggX6_worstOf_X6_heardBy : GoodIn wsX6_worstOf wsX6_heardBy := goodIn_r _ [14, 15, 16, 17, 7, 18, 19, 20, 21, 22, 23, 24, 25, 26, 27, 28, 29, 30, 31, 32, 33, 34, 35, 36, 37, 38, 39, 40, 41, 42, 43, 44, 45, 46, 47, 48] (by decide +kernel) (by decide +kernel)
set_option maxRecDepth 20000 in
theorem gX6_worstOf_X6_heardBy : GoodIn wsX6_worstOf (wsV RX6 131 RX6 yX6_heardBy wsX6_heardBy) := goodIn_app (goodIn_of _ (by decide +kernel)) ggX6_worstOf_X6_heardBy
theorem dX6_worstOf_0 : decode cX6_worstOf 0 = .ok (.iconst 0, 1) := by decide +kernel
theorem dX6_worstOf_1 : decode cX6_worstOf 1 = .ok (.istore_n 2, 1) := by decide +kernel
theorem dX6_worstOf_2 : decode cX6_worstOf 2 = .ok (.iload_n 2, 1) := by decide +kernel
theorem dX6_worstOf_3 : decode cX6_worstOf 3 = .ok (.bipush 32, 2) := by decide +kernel
theorem dX6_worstOf_5 : decode cX6_worstOf 5 = .ok (.if_icmp .ge 16, 3) := by decide +kernel
theorem dX6_worstOf_8 : decode cX6_worstOf 8 = .ok (.aload_n 0, 1) := by decide +kernel
theorem dX6_worstOf_9 : decode cX6_worstOf 9 = .ok (.getfield 31, 3) := by decide +kernel
theorem dX6_worstOf_12 : decode cX6_worstOf 12 = .ok (.iload_n 2, 1) := by decide +kernel
theorem dX6_worstOf_13 : decode cX6_worstOf 13 = .ok (.iconst 0, 1) := by decide +kernel
theorem dX6_worstOf_14 : decode cX6_worstOf 14 = .ok (.iastore, 1) := by decide +kernel
theorem dX6_worstOf_15 : decode cX6_worstOf 15 = .ok (.iinc 2 1, 3) := by decide +kernel
theorem dX6_worstOf_18 : decode cX6_worstOf 18 = .ok (.goto (-16), 3) := by decide +kernel
theorem dX6_worstOf_21 : decode cX6_worstOf 21 = .ok (.iconst 0, 1) := by decide +kernel
theorem dX6_worstOf_22 : decode cX6_worstOf 22 = .ok (.istore_n 2, 1) := by decide +kernel
theorem dX6_worstOf_23 : decode cX6_worstOf 23 = .ok (.iconst 0, 1) := by decide +kernel
theorem dX6_worstOf_24 : decode cX6_worstOf 24 = .ok (.istore_n 3, 1) := by decide +kernel
theorem dX6_worstOf_25 : decode cX6_worstOf 25 = .ok (.iload_n 3, 1) := by decide +kernel
theorem dX6_worstOf_26 : decode cX6_worstOf 26 = .ok (.aload_n 0, 1) := by decide +kernel
theorem dX6_worstOf_27 : decode cX6_worstOf 27 = .ok (.getfield 140, 3) := by decide +kernel
theorem dX6_worstOf_30 : decode cX6_worstOf 30 = .ok (.if_icmp .ge 69, 3) := by decide +kernel
theorem dX6_worstOf_33 : decode cX6_worstOf 33 = .ok (.aload_n 0, 1) := by decide +kernel
theorem dX6_worstOf_34 : decode cX6_worstOf 34 = .ok (.aload_n 0, 1) := by decide +kernel
theorem dX6_worstOf_35 : decode cX6_worstOf 35 = .ok (.getfield 25, 3) := by decide +kernel
theorem dX6_worstOf_38 : decode cX6_worstOf 38 = .ok (.iload_n 3, 1) := by decide +kernel
theorem dX6_worstOf_39 : decode cX6_worstOf 39 = .ok (.iaload, 1) := by decide +kernel
theorem dX6_worstOf_40 : decode cX6_worstOf 40 = .ok (.invokevirtual 159, 3) := by decide +kernel
theorem dX6_worstOf_43 : decode cX6_worstOf 43 = .ok (.ifCond .eq 50, 3) := by decide +kernel
theorem dX6_worstOf_46 : decode cX6_worstOf 46 = .ok (.aload_n 0, 1) := by decide +kernel
theorem dX6_worstOf_47 : decode cX6_worstOf 47 = .ok (.aload_n 0, 1) := by decide +kernel
theorem dX6_worstOf_48 : decode cX6_worstOf 48 = .ok (.getfield 25, 3) := by decide +kernel
theorem dX6_worstOf_51 : decode cX6_worstOf 51 = .ok (.iload_n 3, 1) := by decide +kernel
theorem dX6_worstOf_52 : decode cX6_worstOf 52 = .ok (.iaload, 1) := by decide +kernel
theorem dX6_worstOf_53 : decode cX6_worstOf 53 = .ok (.iload_n 1, 1) := by decide +kernel
theorem dX6_worstOf_54 : decode cX6_worstOf 54 = .ok (.invokevirtual 131, 3) := by decide +kernel
theorem dX6_worstOf_57 : decode cX6_worstOf 57 = .ok (.istore 4, 2) := by decide +kernel
theorem dX6_worstOf_59 : decode cX6_worstOf 59 = .ok (.aload_n 0, 1) := by decide +kernel
theorem dX6_worstOf_60 : decode cX6_worstOf 60 = .ok (.getfield 31, 3) := by decide +kernel
theorem dX6_worstOf_63 : decode cX6_worstOf 63 = .ok (.iload 4, 2) := by decide +kernel
theorem dX6_worstOf_65 : decode cX6_worstOf 65 = .ok (.dup2, 1) := by decide +kernel
theorem dX6_worstOf_66 : decode cX6_worstOf 66 = .ok (.iaload, 1) := by decide +kernel
theorem dX6_worstOf_67 : decode cX6_worstOf 67 = .ok (.iconst 1, 1) := by decide +kernel
theorem dX6_worstOf_68 : decode cX6_worstOf 68 = .ok (.iadd, 1) := by decide +kernel
theorem dX6_worstOf_69 : decode cX6_worstOf 69 = .ok (.iastore, 1) := by decide +kernel
theorem dX6_worstOf_70 : decode cX6_worstOf 70 = .ok (.aload_n 0, 1) := by decide +kernel
theorem dX6_worstOf_71 : decode cX6_worstOf 71 = .ok (.getfield 31, 3) := by decide +kernel
theorem dX6_worstOf_74 : decode cX6_worstOf 74 = .ok (.iload 4, 2) := by decide +kernel
theorem dX6_worstOf_76 : decode cX6_worstOf 76 = .ok (.iaload, 1) := by decide +kernel
theorem dX6_worstOf_77 : decode cX6_worstOf 77 = .ok (.iload_n 2, 1) := by decide +kernel
theorem dX6_worstOf_78 : decode cX6_worstOf 78 = .ok (.if_icmp .le 13, 3) := by decide +kernel
theorem dX6_worstOf_81 : decode cX6_worstOf 81 = .ok (.aload_n 0, 1) := by decide +kernel
theorem dX6_worstOf_82 : decode cX6_worstOf 82 = .ok (.getfield 31, 3) := by decide +kernel
theorem dX6_worstOf_85 : decode cX6_worstOf 85 = .ok (.iload 4, 2) := by decide +kernel
theorem dX6_worstOf_87 : decode cX6_worstOf 87 = .ok (.iaload, 1) := by decide +kernel
theorem dX6_worstOf_88 : decode cX6_worstOf 88 = .ok (.goto 4, 3) := by decide +kernel
theorem dX6_worstOf_91 : decode cX6_worstOf 91 = .ok (.iload_n 2, 1) := by decide +kernel
theorem dX6_worstOf_92 : decode cX6_worstOf 92 = .ok (.istore_n 2, 1) := by decide +kernel
theorem dX6_worstOf_93 : decode cX6_worstOf 93 = .ok (.iinc 3 1, 3) := by decide +kernel
theorem dX6_worstOf_96 : decode cX6_worstOf 96 = .ok (.goto (-71), 3) := by decide +kernel
theorem dX6_worstOf_99 : decode cX6_worstOf 99 = .ok (.iload_n 2, 1) := by decide +kernel
theorem dX6_worstOf_100 : decode cX6_worstOf 100 = .ok (.ireturn, 1) := by decide +kernel
set_option maxRecDepth 20000 in
theorem ggX6_askOf_X6_fitMany : GoodIn wsX6_askOf wsX6_fitMany := goodIn_r _ [6, 7, 8, 9, 10, 11, 5, 12, 13, 14, 15, 16, 17, 18, 1, 19, 20, 21, 22, 23, 24, 25, 26, 27, 33, 34, 35, 36, 37, 38, 39, 40, 41, 42, 43, 44, 45, 46, 47, 48, 49, 50, 51, 52, 53, 54, 55, 56] (by decide +kernel) (by decide +kernel)
set_option maxRecDepth 20000 in
theorem gX6_askOf_X6_fitMany : GoodIn wsX6_askOf (wsV RX6 162 RX6 yX6_fitMany wsX6_fitMany) := goodIn_app (goodIn_of _ (by decide +kernel)) ggX6_askOf_X6_fitMany
set_option maxRecDepth 20000 in
theorem ggX6_askOf_X6_worstOf : GoodIn wsX6_askOf wsX6_worstOf := goodIn_r _ [31, 32, 7, 8, 9, 10, 11, 5, 12, 13, 14, 15, 16, 17, 18, 1, 19, 20, 21, 22, 23, 24, 25, 26, 27, 33, 34, 35, 36, 37, 38, 39, 40, 41, 42, 43, 44, 45, 46, 47, 48, 49, 50, 51, 52, 53, 54, 55, 56] (by decide +kernel) (by decide +kernel)
set_option maxRecDepth 20000 in
theorem gX6_askOf_X6_worstOf : GoodIn wsX6_askOf (wsV RX6 165 RX6 yX6_worstOf wsX6_worstOf) := goodIn_app (goodIn_of _ (by decide +kernel)) ggX6_askOf_X6_worstOf
theorem dX6_askOf_0 : decode cX6_askOf 0 = .ok (.iconst (-1), 1) := by decide +kernel
theorem dX6_askOf_1 : decode cX6_askOf 1 = .ok (.istore_n 1, 1) := by decide +kernel
theorem dX6_askOf_2 : decode cX6_askOf 2 = .ok (.iconst 0, 1) := by decide +kernel
theorem dX6_askOf_3 : decode cX6_askOf 3 = .ok (.istore_n 2, 1) := by decide +kernel
theorem dX6_askOf_4 : decode cX6_askOf 4 = .ok (.iconst 0, 1) := by decide +kernel
theorem dX6_askOf_5 : decode cX6_askOf 5 = .ok (.istore_n 3, 1) := by decide +kernel
theorem dX6_askOf_6 : decode cX6_askOf 6 = .ok (.iload_n 3, 1) := by decide +kernel
theorem dX6_askOf_7 : decode cX6_askOf 7 = .ok (.aload_n 0, 1) := by decide +kernel
theorem dX6_askOf_8 : decode cX6_askOf 8 = .ok (.getfield 72, 3) := by decide +kernel
theorem dX6_askOf_11 : decode cX6_askOf 11 = .ok (.if_icmp .ge 64, 3) := by decide +kernel
theorem dX6_askOf_14 : decode cX6_askOf 14 = .ok (.aload_n 0, 1) := by decide +kernel
theorem dX6_askOf_15 : decode cX6_askOf 15 = .ok (.invokevirtual 162, 3) := by decide +kernel
theorem dX6_askOf_18 : decode cX6_askOf 18 = .ok (.ifCond .le 57, 3) := by decide +kernel
theorem dX6_askOf_21 : decode cX6_askOf 21 = .ok (.aload_n 0, 1) := by decide +kernel
theorem dX6_askOf_22 : decode cX6_askOf 22 = .ok (.iload_n 3, 1) := by decide +kernel
theorem dX6_askOf_23 : decode cX6_askOf 23 = .ok (.invokevirtual 165, 3) := by decide +kernel
theorem dX6_askOf_26 : decode cX6_askOf 26 = .ok (.istore 4, 2) := by decide +kernel
theorem dX6_askOf_28 : decode cX6_askOf 28 = .ok (.iload_n 1, 1) := by decide +kernel
theorem dX6_askOf_29 : decode cX6_askOf 29 = .ok (.iconst (-1), 1) := by decide +kernel
theorem dX6_askOf_30 : decode cX6_askOf 30 = .ok (.if_icmp .eq 9, 3) := by decide +kernel
theorem dX6_askOf_33 : decode cX6_askOf 33 = .ok (.iload 4, 2) := by decide +kernel
theorem dX6_askOf_35 : decode cX6_askOf 35 = .ok (.iload_n 2, 1) := by decide +kernel
theorem dX6_askOf_36 : decode cX6_askOf 36 = .ok (.if_icmp .ge 7, 3) := by decide +kernel
theorem dX6_askOf_39 : decode cX6_askOf 39 = .ok (.iconst 1, 1) := by decide +kernel
theorem dX6_askOf_40 : decode cX6_askOf 40 = .ok (.goto 4, 3) := by decide +kernel
theorem dX6_askOf_43 : decode cX6_askOf 43 = .ok (.iconst 0, 1) := by decide +kernel
theorem dX6_askOf_44 : decode cX6_askOf 44 = .ok (.istore 5, 2) := by decide +kernel
theorem dX6_askOf_46 : decode cX6_askOf 46 = .ok (.iload 5, 2) := by decide +kernel
theorem dX6_askOf_48 : decode cX6_askOf 48 = .ok (.ifCond .eq 7, 3) := by decide +kernel
theorem dX6_askOf_51 : decode cX6_askOf 51 = .ok (.iload_n 3, 1) := by decide +kernel
theorem dX6_askOf_52 : decode cX6_askOf 52 = .ok (.goto 4, 3) := by decide +kernel
theorem dX6_askOf_55 : decode cX6_askOf 55 = .ok (.iload_n 1, 1) := by decide +kernel
theorem dX6_askOf_56 : decode cX6_askOf 56 = .ok (.istore_n 1, 1) := by decide +kernel
theorem dX6_askOf_57 : decode cX6_askOf 57 = .ok (.iload 5, 2) := by decide +kernel
theorem dX6_askOf_59 : decode cX6_askOf 59 = .ok (.ifCond .eq 8, 3) := by decide +kernel
theorem dX6_askOf_62 : decode cX6_askOf 62 = .ok (.iload 4, 2) := by decide +kernel
theorem dX6_askOf_64 : decode cX6_askOf 64 = .ok (.goto 4, 3) := by decide +kernel
theorem dX6_askOf_67 : decode cX6_askOf 67 = .ok (.iload_n 2, 1) := by decide +kernel
theorem dX6_askOf_68 : decode cX6_askOf 68 = .ok (.istore_n 2, 1) := by decide +kernel
theorem dX6_askOf_69 : decode cX6_askOf 69 = .ok (.iinc 3 1, 3) := by decide +kernel
theorem dX6_askOf_72 : decode cX6_askOf 72 = .ok (.goto (-66), 3) := by decide +kernel
theorem dX6_askOf_75 : decode cX6_askOf 75 = .ok (.iload_n 1, 1) := by decide +kernel
theorem dX6_askOf_76 : decode cX6_askOf 76 = .ok (.ireturn, 1) := by decide +kernel
set_option maxRecDepth 20000 in
theorem ggX6_ask_X6_lay : GoodIn wsX6_ask wsX6_lay := goodIn_r _ [5, 6, 7, 8, 9, 10, 11, 12, 13, 4, 14, 15, 16, 17, 18, 19, 20, 21, 22, 23, 24, 25, 26, 27, 28, 29, 30, 31, 32, 33, 34, 35, 36, 37, 38, 39, 40, 41, 42, 43, 44, 45, 46, 47, 48, 49, 50, 51, 52, 53, 80, 81, 82, 83, 84, 85, 86, 87, 88, 89, 90, 91, 92, 93, 94, 95, 96, 97, 98, 99, 100, 101, 102, 103] (by decide +kernel) (by decide +kernel)
set_option maxRecDepth 20000 in
theorem gX6_ask_X6_lay : GoodIn wsX6_ask (wsV RX6 143 RX6 yX6_lay wsX6_lay) := goodIn_app (goodIn_of _ (by decide +kernel)) ggX6_ask_X6_lay
set_option maxRecDepth 20000 in
theorem ggX6_ask_X6_askOf : GoodIn wsX6_ask wsX6_askOf := goodIn_r _ [57, 27, 58, 59, 60, 4, 61, 10, 9, 62, 63, 64, 65, 66, 67, 68, 69, 70, 71, 72, 73, 74, 41, 42, 43, 44, 45, 46, 75, 76, 77, 78, 79, 80, 81, 82, 83, 84, 85, 86, 87, 88, 89, 90, 91, 92, 93, 94, 95, 96, 97, 98, 99, 100, 101, 102, 103] (by decide +kernel) (by decide +kernel)
set_option maxRecDepth 20000 in
theorem gX6_ask_X6_askOf : GoodIn wsX6_ask (wsV RX6 168 RX6 yX6_askOf wsX6_askOf) := goodIn_app (goodIn_of _ (by decide +kernel)) ggX6_ask_X6_askOf
theorem dX6_ask_0 : decode cX6_ask 0 = .ok (.aload_n 0, 1) := by decide +kernel
theorem dX6_ask_1 : decode cX6_ask 1 = .ok (.invokevirtual 143, 3) := by decide +kernel
theorem dX6_ask_4 : decode cX6_ask 4 = .ok (.aload_n 0, 1) := by decide +kernel
theorem dX6_ask_5 : decode cX6_ask 5 = .ok (.invokevirtual 168, 3) := by decide +kernel
theorem dX6_ask_8 : decode cX6_ask 8 = .ok (.ireturn, 1) := by decide +kernel
theorem dX6_draw_0 : decode cX6_draw 0 = .ok (.aload_n 0, 1) := by decide +kernel
theorem dX6_draw_1 : decode cX6_draw 1 = .ok (.ldc2_w 171, 3) := by decide +kernel
theorem dX6_draw_4 : decode cX6_draw 4 = .ok (.aload_n 0, 1) := by decide +kernel
theorem dX6_draw_5 : decode cX6_draw 5 = .ok (.getfield 173, 3) := by decide +kernel
theorem dX6_draw_8 : decode cX6_draw 8 = .ok (.i2l, 1) := by decide +kernel
theorem dX6_draw_9 : decode cX6_draw 9 = .ok (.lmul, 1) := by decide +kernel
theorem dX6_draw_10 : decode cX6_draw 10 = .ok (.ldc2_w 176, 3) := by decide +kernel
theorem dX6_draw_13 : decode cX6_draw 13 = .ok (.ladd, 1) := by decide +kernel
theorem dX6_draw_14 : decode cX6_draw 14 = .ok (.ldc2_w 178, 3) := by decide +kernel
theorem dX6_draw_17 : decode cX6_draw 17 = .ok (.land, 1) := by decide +kernel
theorem dX6_draw_18 : decode cX6_draw 18 = .ok (.l2i, 1) := by decide +kernel
theorem dX6_draw_19 : decode cX6_draw 19 = .ok (.putfield 173, 3) := by decide +kernel
theorem dX6_draw_22 : decode cX6_draw 22 = .ok (.aload_n 0, 1) := by decide +kernel
theorem dX6_draw_23 : decode cX6_draw 23 = .ok (.getfield 173, 3) := by decide +kernel
theorem dX6_draw_26 : decode cX6_draw 26 = .ok (.ldc 180, 2) := by decide +kernel
theorem dX6_draw_28 : decode cX6_draw 28 = .ok (.idiv, 1) := by decide +kernel
theorem dX6_draw_29 : decode cX6_draw 29 = .ok (.iload_n 1, 1) := by decide +kernel
theorem dX6_draw_30 : decode cX6_draw 30 = .ok (.irem, 1) := by decide +kernel
theorem dX6_draw_31 : decode cX6_draw 31 = .ok (.ireturn, 1) := by decide +kernel
set_option maxRecDepth 20000 in
theorem ggX6_mayMany_X6_isDeed : GoodIn wsX6_mayMany wsX6_isDeed := goodIn_r _ [5, 6, 7, 8, 9, 10, 11, 12, 4, 13, 14, 15, 16, 17, 18, 45, 46, 47, 48, 49, 50, 51, 52, 53, 54, 55, 56, 57, 58, 59, 60, 61, 62, 63, 64, 65, 66, 67, 68] (by decide +kernel) (by decide +kernel)
set_option maxRecDepth 20000 in
theorem gX6_mayMany_X6_isDeed : GoodIn wsX6_mayMany (wsV RX6 118 RX6 yX6_isDeed wsX6_isDeed) := goodIn_app (goodIn_of _ (by decide +kernel)) ggX6_mayMany_X6_isDeed
set_option maxRecDepth 20000 in
theorem ggX6_mayMany_X6_done : GoodIn wsX6_mayMany wsX6_done := goodIn_r _ [22, 23, 24, 25, 26, 4, 27, 28, 29, 30, 31, 18, 32, 33, 34, 35, 36, 37, 38, 39, 40, 41, 42, 43, 44, 45, 46, 47, 48, 49, 50, 51, 52, 53, 54, 55, 56, 57, 58, 59, 60, 61, 62, 63, 64, 65, 66, 67, 68] (by decide +kernel) (by decide +kernel)
set_option maxRecDepth 20000 in
theorem gX6_mayMany_X6_done : GoodIn wsX6_mayMany (wsV RX6 121 RX6 yX6_done wsX6_done) := goodIn_app (goodIn_of _ (by decide +kernel)) ggX6_mayMany_X6_done
theorem dX6_mayMany_0 : decode cX6_mayMany 0 = .ok (.iconst 0, 1) := by decide +kernel
theorem dX6_mayMany_1 : decode cX6_mayMany 1 = .ok (.istore_n 2, 1) := by decide +kernel
theorem dX6_mayMany_2 : decode cX6_mayMany 2 = .ok (.iconst 0, 1) := by decide +kernel
theorem dX6_mayMany_3 : decode cX6_mayMany 3 = .ok (.istore_n 3, 1) := by decide +kernel
theorem dX6_mayMany_4 : decode cX6_mayMany 4 = .ok (.iload_n 3, 1) := by decide +kernel
theorem dX6_mayMany_5 : decode cX6_mayMany 5 = .ok (.bipush 45, 2) := by decide +kernel
theorem dX6_mayMany_7 : decode cX6_mayMany 7 = .ok (.if_icmp .ge 35, 3) := by decide +kernel
theorem dX6_mayMany_10 : decode cX6_mayMany 10 = .ok (.iload_n 2, 1) := by decide +kernel
theorem dX6_mayMany_11 : decode cX6_mayMany 11 = .ok (.aload_n 0, 1) := by decide +kernel
theorem dX6_mayMany_12 : decode cX6_mayMany 12 = .ok (.iload_n 3, 1) := by decide +kernel
theorem dX6_mayMany_13 : decode cX6_mayMany 13 = .ok (.invokevirtual 118, 3) := by decide +kernel
theorem dX6_mayMany_16 : decode cX6_mayMany 16 = .ok (.ifCond .eq 17, 3) := by decide +kernel
theorem dX6_mayMany_19 : decode cX6_mayMany 19 = .ok (.aload_n 0, 1) := by decide +kernel
theorem dX6_mayMany_20 : decode cX6_mayMany 20 = .ok (.iload_n 1, 1) := by decide +kernel
theorem dX6_mayMany_21 : decode cX6_mayMany 21 = .ok (.iload_n 3, 1) := by decide +kernel
theorem dX6_mayMany_22 : decode cX6_mayMany 22 = .ok (.invokevirtual 121, 3) := by decide +kernel
theorem dX6_mayMany_25 : decode cX6_mayMany 25 = .ok (.iconst (-1), 1) := by decide +kernel
theorem dX6_mayMany_26 : decode cX6_mayMany 26 = .ok (.if_icmp .eq 7, 3) := by decide +kernel
theorem dX6_mayMany_29 : decode cX6_mayMany 29 = .ok (.iconst 1, 1) := by decide +kernel
theorem dX6_mayMany_30 : decode cX6_mayMany 30 = .ok (.goto 4, 3) := by decide +kernel
theorem dX6_mayMany_33 : decode cX6_mayMany 33 = .ok (.iconst 0, 1) := by decide +kernel
theorem dX6_mayMany_34 : decode cX6_mayMany 34 = .ok (.iadd, 1) := by decide +kernel
theorem dX6_mayMany_35 : decode cX6_mayMany 35 = .ok (.istore_n 2, 1) := by decide +kernel
theorem dX6_mayMany_36 : decode cX6_mayMany 36 = .ok (.iinc 3 1, 3) := by decide +kernel
theorem dX6_mayMany_39 : decode cX6_mayMany 39 = .ok (.goto (-35), 3) := by decide +kernel
theorem dX6_mayMany_42 : decode cX6_mayMany 42 = .ok (.iload_n 2, 1) := by decide +kernel
theorem dX6_mayMany_43 : decode cX6_mayMany 43 = .ok (.ireturn, 1) := by decide +kernel
set_option maxRecDepth 20000 in
theorem ggX6_days_X6_in : GoodIn wsX6_days wsX6_in := goodIn_r _ [8] (by decide +kernel) (by decide +kernel)
set_option maxRecDepth 20000 in
theorem gX6_days_X6_in : GoodIn wsX6_days (va_wsS RX6 43 yX6_in wsX6_in) := goodIn_app (goodIn_of _ (by decide +kernel)) ggX6_days_X6_in
set_option maxRecDepth 20000 in
theorem ggX6_days_X6_mayMany : GoodIn wsX6_days wsX6_mayMany := goodIn_r _ [12, 13, 14, 15, 7, 16, 17, 18, 19, 20, 21, 5, 6, 8, 22, 23, 24, 25, 26, 27, 28, 29, 30, 31, 32, 33, 34, 35, 36, 37, 38, 39, 40, 41, 42, 43, 44, 45, 46, 47, 48, 49, 50, 51, 52, 61, 62, 63, 64, 65, 66, 67, 68, 69, 70, 71, 72, 73, 74, 75, 76, 77, 78, 79, 80, 81, 82, 83, 84] (by decide +kernel) (by decide +kernel)
set_option maxRecDepth 20000 in
theorem gX6_days_X6_mayMany : GoodIn wsX6_days (wsV RX6 185 RX6 yX6_mayMany wsX6_mayMany) := goodIn_app (goodIn_of _ (by decide +kernel)) ggX6_days_X6_mayMany
set_option maxRecDepth 20000 in
theorem ggX6_days_X6_draw : GoodIn wsX6_days wsX6_draw := goodIn_r _ [56, 57, 3, 58, 59, 60, 61, 62, 63, 64, 65, 66, 67, 68, 69, 70, 71, 72, 73, 74, 75, 76, 77, 78, 79, 80, 81, 82, 83, 84] (by decide +kernel) (by decide +kernel)
set_option maxRecDepth 20000 in
theorem gX6_days_X6_draw : GoodIn wsX6_days (wsV RX6 188 RX6 yX6_draw wsX6_draw) := goodIn_app (goodIn_of _ (by decide +kernel)) ggX6_days_X6_draw
set_option maxRecDepth 20000 in
theorem ggX6_days_X6_isDeed : GoodIn wsX6_days wsX6_isDeed := goodIn_r _ [16, 17, 18, 19, 20, 21, 5, 6, 7, 8, 22, 23, 24, 25, 26, 61, 62, 63, 64, 65, 66, 67, 68, 69, 70, 71, 72, 73, 74, 75, 76, 77, 78, 79, 80, 81, 82, 83, 84] (by decide +kernel) (by decide +kernel)
set_option maxRecDepth 20000 in
theorem gX6_days_X6_isDeed : GoodIn wsX6_days (wsV RX6 118 RX6 yX6_isDeed wsX6_isDeed) := goodIn_app (goodIn_of _ (by decide +kernel)) ggX6_days_X6_isDeed
set_option maxRecDepth 20000 in
theorem ggX6_days_X6_done : GoodIn wsX6_days wsX6_done := goodIn_r _ [30, 31, 32, 33, 34, 7, 35, 36, 37, 38, 39, 26, 40, 41, 42, 43, 44, 45, 46, 47, 48, 49, 50, 51, 52, 61, 62, 63, 64, 65, 66, 67, 68, 69, 70, 71, 72, 73, 74, 75, 76, 77, 78, 79, 80, 81, 82, 83, 84] (by decide +kernel) (by decide +kernel)
set_option maxRecDepth 20000 in
theorem gX6_days_X6_done : GoodIn wsX6_days (wsV RX6 121 RX6 yX6_done wsX6_done) := goodIn_app (goodIn_of _ (by decide +kernel)) ggX6_days_X6_done
theorem dX6_days_0 : decode cX6_days 0 = .ok (.iload_n 1, 1) := by decide +kernel
theorem dX6_days_1 : decode cX6_days 1 = .ok (.i2l, 1) := by decide +kernel
theorem dX6_days_2 : decode cX6_days 2 = .ok (.lconst 1, 1) := by decide +kernel
theorem dX6_days_3 : decode cX6_days 3 = .ok (.ldc2_w 181, 3) := by decide +kernel
theorem dX6_days_6 : decode cX6_days 6 = .ok (.invokestatic 43, 3) := by decide +kernel
theorem dX6_days_9 : decode cX6_days 9 = .ok (.ifCond .eq 19, 3) := by decide +kernel
theorem dX6_days_12 : decode cX6_days 12 = .ok (.iload_n 2, 1) := by decide +kernel
theorem dX6_days_13 : decode cX6_days 13 = .ok (.ifCond .lt 15, 3) := by decide +kernel
theorem dX6_days_16 : decode cX6_days 16 = .ok (.iload_n 3, 1) := by decide +kernel
theorem dX6_days_17 : decode cX6_days 17 = .ok (.i2l, 1) := by decide +kernel
theorem dX6_days_18 : decode cX6_days 18 = .ok (.lconst 0, 1) := by decide +kernel
theorem dX6_days_19 : decode cX6_days 19 = .ok (.ldc2_w 183, 3) := by decide +kernel
theorem dX6_days_22 : decode cX6_days 22 = .ok (.invokestatic 43, 3) := by decide +kernel
theorem dX6_days_25 : decode cX6_days 25 = .ok (.ifCond .ne 6, 3) := by decide +kernel
theorem dX6_days_28 : decode cX6_days 28 = .ok (.bipush (-102), 2) := by decide +kernel
theorem dX6_days_30 : decode cX6_days 30 = .ok (.ireturn, 1) := by decide +kernel
theorem dX6_days_31 : decode cX6_days 31 = .ok (.aload_n 0, 1) := by decide +kernel
theorem dX6_days_32 : decode cX6_days 32 = .ok (.iload_n 2, 1) := by decide +kernel
theorem dX6_days_33 : decode cX6_days 33 = .ok (.putfield 173, 3) := by decide +kernel
theorem dX6_days_36 : decode cX6_days 36 = .ok (.aload_n 0, 1) := by decide +kernel
theorem dX6_days_37 : decode cX6_days 37 = .ok (.getfield 115, 3) := by decide +kernel
theorem dX6_days_40 : decode cX6_days 40 = .ok (.istore 4, 2) := by decide +kernel
theorem dX6_days_42 : decode cX6_days 42 = .ok (.iconst 0, 1) := by decide +kernel
theorem dX6_days_43 : decode cX6_days 43 = .ok (.istore 5, 2) := by decide +kernel
theorem dX6_days_45 : decode cX6_days 45 = .ok (.aload_n 0, 1) := by decide +kernel
theorem dX6_days_46 : decode cX6_days 46 = .ok (.iload 4, 2) := by decide +kernel
theorem dX6_days_48 : decode cX6_days 48 = .ok (.invokevirtual 185, 3) := by decide +kernel
theorem dX6_days_51 : decode cX6_days 51 = .ok (.istore 6, 2) := by decide +kernel
theorem dX6_days_53 : decode cX6_days 53 = .ok (.iload 5, 2) := by decide +kernel
theorem dX6_days_55 : decode cX6_days 55 = .ok (.iload_n 1, 1) := by decide +kernel
theorem dX6_days_56 : decode cX6_days 56 = .ok (.if_icmp .ge 113, 3) := by decide +kernel
theorem dX6_days_59 : decode cX6_days 59 = .ok (.iload 6, 2) := by decide +kernel
theorem dX6_days_61 : decode cX6_days 61 = .ok (.ifCond .le 108, 3) := by decide +kernel
theorem dX6_days_64 : decode cX6_days 64 = .ok (.aload_n 0, 1) := by decide +kernel
theorem dX6_days_65 : decode cX6_days 65 = .ok (.iload 6, 2) := by decide +kernel
theorem dX6_days_67 : decode cX6_days 67 = .ok (.invokevirtual 188, 3) := by decide +kernel
theorem dX6_days_70 : decode cX6_days 70 = .ok (.istore 7, 2) := by decide +kernel
theorem dX6_days_72 : decode cX6_days 72 = .ok (.iload 4, 2) := by decide +kernel
theorem dX6_days_74 : decode cX6_days 74 = .ok (.istore 8, 2) := by decide +kernel
theorem dX6_days_76 : decode cX6_days 76 = .ok (.iconst 0, 1) := by decide +kernel
theorem dX6_days_77 : decode cX6_days 77 = .ok (.istore 9, 2) := by decide +kernel
theorem dX6_days_79 : decode cX6_days 79 = .ok (.iload 9, 2) := by decide +kernel
theorem dX6_days_81 : decode cX6_days 81 = .ok (.bipush 45, 2) := by decide +kernel
theorem dX6_days_83 : decode cX6_days 83 = .ok (.if_icmp .ge 68, 3) := by decide +kernel
theorem dX6_days_86 : decode cX6_days 86 = .ok (.aload_n 0, 1) := by decide +kernel
theorem dX6_days_87 : decode cX6_days 87 = .ok (.iload 9, 2) := by decide +kernel
theorem dX6_days_89 : decode cX6_days 89 = .ok (.invokevirtual 118, 3) := by decide +kernel
theorem dX6_days_92 : decode cX6_days 92 = .ok (.ifCond .eq 14, 3) := by decide +kernel
theorem dX6_days_95 : decode cX6_days 95 = .ok (.aload_n 0, 1) := by decide +kernel
theorem dX6_days_96 : decode cX6_days 96 = .ok (.iload 4, 2) := by decide +kernel
theorem dX6_days_98 : decode cX6_days 98 = .ok (.iload 9, 2) := by decide +kernel
theorem dX6_days_100 : decode cX6_days 100 = .ok (.invokevirtual 121, 3) := by decide +kernel
theorem dX6_days_103 : decode cX6_days 103 = .ok (.goto 4, 3) := by decide +kernel
theorem dX6_days_106 : decode cX6_days 106 = .ok (.iconst (-1), 1) := by decide +kernel
theorem dX6_days_107 : decode cX6_days 107 = .ok (.istore 10, 2) := by decide +kernel
theorem dX6_days_109 : decode cX6_days 109 = .ok (.iload 10, 2) := by decide +kernel
theorem dX6_days_111 : decode cX6_days 111 = .ok (.iconst (-1), 1) := by decide +kernel
theorem dX6_days_112 : decode cX6_days 112 = .ok (.if_icmp .eq 13, 3) := by decide +kernel
theorem dX6_days_115 : decode cX6_days 115 = .ok (.iload 7, 2) := by decide +kernel
theorem dX6_days_117 : decode cX6_days 117 = .ok (.ifCond .ne 8, 3) := by decide +kernel
theorem dX6_days_120 : decode cX6_days 120 = .ok (.iload 10, 2) := by decide +kernel
theorem dX6_days_122 : decode cX6_days 122 = .ok (.goto 5, 3) := by decide +kernel
theorem dX6_days_125 : decode cX6_days 125 = .ok (.iload 8, 2) := by decide +kernel
theorem dX6_days_127 : decode cX6_days 127 = .ok (.istore 8, 2) := by decide +kernel
theorem dX6_days_129 : decode cX6_days 129 = .ok (.iload 7, 2) := by decide +kernel
theorem dX6_days_131 : decode cX6_days 131 = .ok (.iload 10, 2) := by decide +kernel
theorem dX6_days_133 : decode cX6_days 133 = .ok (.iconst (-1), 1) := by decide +kernel
theorem dX6_days_134 : decode cX6_days 134 = .ok (.if_icmp .ne 7, 3) := by decide +kernel
theorem dX6_days_137 : decode cX6_days 137 = .ok (.iconst 0, 1) := by decide +kernel
theorem dX6_days_138 : decode cX6_days 138 = .ok (.goto 4, 3) := by decide +kernel
theorem dX6_days_141 : decode cX6_days 141 = .ok (.iconst 1, 1) := by decide +kernel
theorem dX6_days_142 : decode cX6_days 142 = .ok (.isub, 1) := by decide +kernel
theorem dX6_days_143 : decode cX6_days 143 = .ok (.istore 7, 2) := by decide +kernel
theorem dX6_days_145 : decode cX6_days 145 = .ok (.iinc 9 1, 3) := by decide +kernel
theorem dX6_days_148 : decode cX6_days 148 = .ok (.goto (-69), 3) := by decide +kernel
theorem dX6_days_151 : decode cX6_days 151 = .ok (.iload 8, 2) := by decide +kernel
theorem dX6_days_153 : decode cX6_days 153 = .ok (.istore 4, 2) := by decide +kernel
theorem dX6_days_155 : decode cX6_days 155 = .ok (.iinc 5 1, 3) := by decide +kernel
theorem dX6_days_158 : decode cX6_days 158 = .ok (.aload_n 0, 1) := by decide +kernel
theorem dX6_days_159 : decode cX6_days 159 = .ok (.iload 4, 2) := by decide +kernel
theorem dX6_days_161 : decode cX6_days 161 = .ok (.invokevirtual 185, 3) := by decide +kernel
theorem dX6_days_164 : decode cX6_days 164 = .ok (.istore 6, 2) := by decide +kernel
theorem dX6_days_166 : decode cX6_days 166 = .ok (.goto (-113), 3) := by decide +kernel
theorem dX6_days_169 : decode cX6_days 169 = .ok (.iload_n 3, 1) := by decide +kernel
theorem dX6_days_170 : decode cX6_days 170 = .ok (.ifCond .ne 8, 3) := by decide +kernel
theorem dX6_days_173 : decode cX6_days 173 = .ok (.iload 4, 2) := by decide +kernel
theorem dX6_days_175 : decode cX6_days 175 = .ok (.goto 17, 3) := by decide +kernel
theorem dX6_days_178 : decode cX6_days 178 = .ok (.iload_n 3, 1) := by decide +kernel
theorem dX6_days_179 : decode cX6_days 179 = .ok (.iconst 1, 1) := by decide +kernel
theorem dX6_days_180 : decode cX6_days 180 = .ok (.if_icmp .ne 8, 3) := by decide +kernel
theorem dX6_days_183 : decode cX6_days 183 = .ok (.iload 5, 2) := by decide +kernel
theorem dX6_days_185 : decode cX6_days 185 = .ok (.goto 7, 3) := by decide +kernel
theorem dX6_days_188 : decode cX6_days 188 = .ok (.aload_n 0, 1) := by decide +kernel
theorem dX6_days_189 : decode cX6_days 189 = .ok (.getfield 173, 3) := by decide +kernel
theorem dX6_days_192 : decode cX6_days 192 = .ok (.ireturn, 1) := by decide +kernel
theorem dX6_image_0 : decode cX6_image 0 = .ok (.iconst 0, 1) := by decide +kernel
theorem dX6_image_1 : decode cX6_image 1 = .ok (.istore_n 1, 1) := by decide +kernel
theorem dX6_image_2 : decode cX6_image 2 = .ok (.iload_n 1, 1) := by decide +kernel
theorem dX6_image_3 : decode cX6_image 3 = .ok (.bipush 8, 2) := by decide +kernel
theorem dX6_image_5 : decode cX6_image 5 = .ok (.if_icmp .ge 21, 3) := by decide +kernel
theorem dX6_image_8 : decode cX6_image 8 = .ok (.aload_n 0, 1) := by decide +kernel
theorem dX6_image_9 : decode cX6_image 9 = .ok (.getfield 34, 3) := by decide +kernel
theorem dX6_image_12 : decode cX6_image 12 = .ok (.iload_n 1, 1) := by decide +kernel
theorem dX6_image_13 : decode cX6_image 13 = .ok (.aload_n 0, 1) := by decide +kernel
theorem dX6_image_14 : decode cX6_image 14 = .ok (.getfield 28, 3) := by decide +kernel
theorem dX6_image_17 : decode cX6_image 17 = .ok (.iload_n 1, 1) := by decide +kernel
theorem dX6_image_18 : decode cX6_image 18 = .ok (.iaload, 1) := by decide +kernel
theorem dX6_image_19 : decode cX6_image 19 = .ok (.iastore, 1) := by decide +kernel
theorem dX6_image_20 : decode cX6_image 20 = .ok (.iinc 1 1, 3) := by decide +kernel
theorem dX6_image_23 : decode cX6_image 23 = .ok (.goto (-21), 3) := by decide +kernel
theorem dX6_image_26 : decode cX6_image 26 = .ok (.aload_n 0, 1) := by decide +kernel
theorem dX6_image_27 : decode cX6_image 27 = .ok (.aload_n 0, 1) := by decide +kernel
theorem dX6_image_28 : decode cX6_image 28 = .ok (.getfield 72, 3) := by decide +kernel
theorem dX6_image_31 : decode cX6_image 31 = .ok (.putfield 191, 3) := by decide +kernel
theorem dX6_image_34 : decode cX6_image 34 = .ok (.aload_n 0, 1) := by decide +kernel
theorem dX6_image_35 : decode cX6_image 35 = .ok (.aload_n 0, 1) := by decide +kernel
theorem dX6_image_36 : decode cX6_image 36 = .ok (.getfield 137, 3) := by decide +kernel
theorem dX6_image_39 : decode cX6_image 39 = .ok (.putfield 194, 3) := by decide +kernel
theorem dX6_image_42 : decode cX6_image 42 = .ok (.aload_n 0, 1) := by decide +kernel
theorem dX6_image_43 : decode cX6_image 43 = .ok (.aload_n 0, 1) := by decide +kernel
theorem dX6_image_44 : decode cX6_image 44 = .ok (.getfield 156, 3) := by decide +kernel
theorem dX6_image_47 : decode cX6_image 47 = .ok (.putfield 197, 3) := by decide +kernel
theorem dX6_image_50 : decode cX6_image 50 = .ok (.aload_n 0, 1) := by decide +kernel
theorem dX6_image_51 : decode cX6_image 51 = .ok (.aload_n 0, 1) := by decide +kernel
theorem dX6_image_52 : decode cX6_image 52 = .ok (.getfield 115, 3) := by decide +kernel
theorem dX6_image_55 : decode cX6_image 55 = .ok (.putfield 37, 3) := by decide +kernel
theorem dX6_image_58 : decode cX6_image 58 = .ok (.aload_n 0, 1) := by decide +kernel
theorem dX6_image_59 : decode cX6_image 59 = .ok (.getfield 115, 3) := by decide +kernel
theorem dX6_image_62 : decode cX6_image 62 = .ok (.ireturn, 1) := by decide +kernel
theorem dX6_restore_0 : decode cX6_restore 0 = .ok (.aload_n 0, 1) := by decide +kernel
theorem dX6_restore_1 : decode cX6_restore 1 = .ok (.getfield 37, 3) := by decide +kernel
theorem dX6_restore_4 : decode cX6_restore 4 = .ok (.iconst (-1), 1) := by decide +kernel
theorem dX6_restore_5 : decode cX6_restore 5 = .ok (.if_icmp .eq 14, 3) := by decide +kernel
theorem dX6_restore_8 : decode cX6_restore 8 = .ok (.aload_n 0, 1) := by decide +kernel
theorem dX6_restore_9 : decode cX6_restore 9 = .ok (.getfield 191, 3) := by decide +kernel
theorem dX6_restore_12 : decode cX6_restore 12 = .ok (.aload_n 0, 1) := by decide +kernel
theorem dX6_restore_13 : decode cX6_restore 13 = .ok (.getfield 72, 3) := by decide +kernel
theorem dX6_restore_16 : decode cX6_restore 16 = .ok (.if_icmp .eq 6, 3) := by decide +kernel
theorem dX6_restore_19 : decode cX6_restore 19 = .ok (.bipush (-103), 2) := by decide +kernel
theorem dX6_restore_21 : decode cX6_restore 21 = .ok (.ireturn, 1) := by decide +kernel
theorem dX6_restore_22 : decode cX6_restore 22 = .ok (.iconst 0, 1) := by decide +kernel
theorem dX6_restore_23 : decode cX6_restore 23 = .ok (.istore_n 1, 1) := by decide +kernel
theorem dX6_restore_24 : decode cX6_restore 24 = .ok (.iload_n 1, 1) := by decide +kernel
theorem dX6_restore_25 : decode cX6_restore 25 = .ok (.bipush 8, 2) := by decide +kernel
theorem dX6_restore_27 : decode cX6_restore 27 = .ok (.if_icmp .ge 21, 3) := by decide +kernel
theorem dX6_restore_30 : decode cX6_restore 30 = .ok (.aload_n 0, 1) := by decide +kernel
theorem dX6_restore_31 : decode cX6_restore 31 = .ok (.getfield 28, 3) := by decide +kernel
theorem dX6_restore_34 : decode cX6_restore 34 = .ok (.iload_n 1, 1) := by decide +kernel
theorem dX6_restore_35 : decode cX6_restore 35 = .ok (.aload_n 0, 1) := by decide +kernel
theorem dX6_restore_36 : decode cX6_restore 36 = .ok (.getfield 34, 3) := by decide +kernel
theorem dX6_restore_39 : decode cX6_restore 39 = .ok (.iload_n 1, 1) := by decide +kernel
theorem dX6_restore_40 : decode cX6_restore 40 = .ok (.iaload, 1) := by decide +kernel
theorem dX6_restore_41 : decode cX6_restore 41 = .ok (.iastore, 1) := by decide +kernel
theorem dX6_restore_42 : decode cX6_restore 42 = .ok (.iinc 1 1, 3) := by decide +kernel
theorem dX6_restore_45 : decode cX6_restore 45 = .ok (.goto (-21), 3) := by decide +kernel
theorem dX6_restore_48 : decode cX6_restore 48 = .ok (.aload_n 0, 1) := by decide +kernel
theorem dX6_restore_49 : decode cX6_restore 49 = .ok (.aload_n 0, 1) := by decide +kernel
theorem dX6_restore_50 : decode cX6_restore 50 = .ok (.getfield 194, 3) := by decide +kernel
theorem dX6_restore_53 : decode cX6_restore 53 = .ok (.putfield 137, 3) := by decide +kernel
theorem dX6_restore_56 : decode cX6_restore 56 = .ok (.aload_n 0, 1) := by decide +kernel
theorem dX6_restore_57 : decode cX6_restore 57 = .ok (.aload_n 0, 1) := by decide +kernel
theorem dX6_restore_58 : decode cX6_restore 58 = .ok (.getfield 197, 3) := by decide +kernel
theorem dX6_restore_61 : decode cX6_restore 61 = .ok (.putfield 156, 3) := by decide +kernel
theorem dX6_restore_64 : decode cX6_restore 64 = .ok (.aload_n 0, 1) := by decide +kernel
theorem dX6_restore_65 : decode cX6_restore 65 = .ok (.aload_n 0, 1) := by decide +kernel
theorem dX6_restore_66 : decode cX6_restore 66 = .ok (.getfield 37, 3) := by decide +kernel
theorem dX6_restore_69 : decode cX6_restore 69 = .ok (.putfield 115, 3) := by decide +kernel
theorem dX6_restore_72 : decode cX6_restore 72 = .ok (.aload_n 0, 1) := by decide +kernel
theorem dX6_restore_73 : decode cX6_restore 73 = .ok (.getfield 115, 3) := by decide +kernel
theorem dX6_restore_76 : decode cX6_restore 76 = .ok (.ireturn, 1) := by decide +kernel
set_option maxRecDepth 20000 in
theorem ggX6_countOf_X6_holder : GoodIn wsX6_countOf wsX6_holder := goodIn_r _ [9, 10, 11, 8, 12] (by decide +kernel) (by decide +kernel)
set_option maxRecDepth 20000 in
theorem gX6_countOf_X6_holder : GoodIn wsX6_countOf (va_wsS RX6 85 yX6_holder wsX6_holder) := goodIn_app (goodIn_of _ (by decide +kernel)) ggX6_countOf_X6_holder
set_option maxRecDepth 20000 in
theorem ggX6_countOf_X6_mayMany : GoodIn wsX6_countOf wsX6_mayMany := goodIn_r _ [16, 17, 18, 19, 8, 20, 21, 22, 23, 24, 25, 26, 27, 28, 29, 30, 31, 32, 1, 33, 34, 35, 36, 37, 38, 39, 40, 41, 42, 43, 44, 45, 6, 7, 9, 10, 11, 12, 46, 47, 48, 49, 50, 51, 52, 53, 54, 55, 56, 57, 58, 59, 60, 61, 62, 63, 64, 65, 66, 67, 68, 69, 70, 71, 72, 73, 74, 75, 76] (by decide +kernel) (by decide +kernel)
set_option maxRecDepth 20000 in
theorem gX6_countOf_X6_mayMany : GoodIn wsX6_countOf (wsV RX6 185 RX6 yX6_mayMany wsX6_mayMany) := goodIn_app (goodIn_of _ (by decide +kernel)) ggX6_countOf_X6_mayMany
theorem dX6_countOf_0 : decode cX6_countOf 0 = .ok (.iconst 0, 1) := by decide +kernel
theorem dX6_countOf_1 : decode cX6_countOf 1 = .ok (.istore_n 2, 1) := by decide +kernel
theorem dX6_countOf_2 : decode cX6_countOf 2 = .ok (.iconst 0, 1) := by decide +kernel
theorem dX6_countOf_3 : decode cX6_countOf 3 = .ok (.istore_n 3, 1) := by decide +kernel
theorem dX6_countOf_4 : decode cX6_countOf 4 = .ok (.iload_n 3, 1) := by decide +kernel
theorem dX6_countOf_5 : decode cX6_countOf 5 = .ok (.aload_n 0, 1) := by decide +kernel
theorem dX6_countOf_6 : decode cX6_countOf 6 = .ok (.getfield 72, 3) := by decide +kernel
theorem dX6_countOf_9 : decode cX6_countOf 9 = .ok (.if_icmp .ge 29, 3) := by decide +kernel
theorem dX6_countOf_12 : decode cX6_countOf 12 = .ok (.iload_n 2, 1) := by decide +kernel
theorem dX6_countOf_13 : decode cX6_countOf 13 = .ok (.aload_n 0, 1) := by decide +kernel
theorem dX6_countOf_14 : decode cX6_countOf 14 = .ok (.getfield 115, 3) := by decide +kernel
theorem dX6_countOf_17 : decode cX6_countOf 17 = .ok (.iload_n 3, 1) := by decide +kernel
theorem dX6_countOf_18 : decode cX6_countOf 18 = .ok (.invokestatic 85, 3) := by decide +kernel
theorem dX6_countOf_21 : decode cX6_countOf 21 = .ok (.iconst (-1), 1) := by decide +kernel
theorem dX6_countOf_22 : decode cX6_countOf 22 = .ok (.if_icmp .ne 7, 3) := by decide +kernel
theorem dX6_countOf_25 : decode cX6_countOf 25 = .ok (.iconst 1, 1) := by decide +kernel
theorem dX6_countOf_26 : decode cX6_countOf 26 = .ok (.goto 4, 3) := by decide +kernel
theorem dX6_countOf_29 : decode cX6_countOf 29 = .ok (.iconst 0, 1) := by decide +kernel
theorem dX6_countOf_30 : decode cX6_countOf 30 = .ok (.iadd, 1) := by decide +kernel
theorem dX6_countOf_31 : decode cX6_countOf 31 = .ok (.istore_n 2, 1) := by decide +kernel
theorem dX6_countOf_32 : decode cX6_countOf 32 = .ok (.iinc 3 1, 3) := by decide +kernel
theorem dX6_countOf_35 : decode cX6_countOf 35 = .ok (.goto (-31), 3) := by decide +kernel
theorem dX6_countOf_38 : decode cX6_countOf 38 = .ok (.iload_n 1, 1) := by decide +kernel
theorem dX6_countOf_39 : decode cX6_countOf 39 = .ok (.tableswitch 68 0 5 #[37, 42, 44, 49, 54, 59], 37) := by decide +kernel
theorem dX6_countOf_76 : decode cX6_countOf 76 = .ok (.aload_n 0, 1) := by decide +kernel
theorem dX6_countOf_77 : decode cX6_countOf 77 = .ok (.getfield 72, 3) := by decide +kernel
theorem dX6_countOf_80 : decode cX6_countOf 80 = .ok (.ireturn, 1) := by decide +kernel
theorem dX6_countOf_81 : decode cX6_countOf 81 = .ok (.iload_n 2, 1) := by decide +kernel
theorem dX6_countOf_82 : decode cX6_countOf 82 = .ok (.ireturn, 1) := by decide +kernel
theorem dX6_countOf_83 : decode cX6_countOf 83 = .ok (.aload_n 0, 1) := by decide +kernel
theorem dX6_countOf_84 : decode cX6_countOf 84 = .ok (.getfield 137, 3) := by decide +kernel
theorem dX6_countOf_87 : decode cX6_countOf 87 = .ok (.ireturn, 1) := by decide +kernel
theorem dX6_countOf_88 : decode cX6_countOf 88 = .ok (.aload_n 0, 1) := by decide +kernel
theorem dX6_countOf_89 : decode cX6_countOf 89 = .ok (.getfield 156, 3) := by decide +kernel
theorem dX6_countOf_92 : decode cX6_countOf 92 = .ok (.ireturn, 1) := by decide +kernel
theorem dX6_countOf_93 : decode cX6_countOf 93 = .ok (.aload_n 0, 1) := by decide +kernel
theorem dX6_countOf_94 : decode cX6_countOf 94 = .ok (.getfield 47, 3) := by decide +kernel
theorem dX6_countOf_97 : decode cX6_countOf 97 = .ok (.ireturn, 1) := by decide +kernel
theorem dX6_countOf_98 : decode cX6_countOf 98 = .ok (.aload_n 0, 1) := by decide +kernel
theorem dX6_countOf_99 : decode cX6_countOf 99 = .ok (.aload_n 0, 1) := by decide +kernel
theorem dX6_countOf_100 : decode cX6_countOf 100 = .ok (.getfield 115, 3) := by decide +kernel
theorem dX6_countOf_103 : decode cX6_countOf 103 = .ok (.invokevirtual 185, 3) := by decide +kernel
theorem dX6_countOf_106 : decode cX6_countOf 106 = .ok (.ireturn, 1) := by decide +kernel
theorem dX6_countOf_107 : decode cX6_countOf 107 = .ok (.bipush (-102), 2) := by decide +kernel
theorem dX6_countOf_109 : decode cX6_countOf 109 = .ok (.ireturn, 1) := by decide +kernel
set_option maxRecDepth 20000 in
theorem ggX6_count_X6_countOf : GoodIn wsX6_count wsX6_countOf := goodIn_r _ [5, 6, 7, 8, 9, 10, 11, 12, 4, 13, 14, 15, 16, 17, 18, 19, 20, 21, 22, 23, 24, 25, 26, 27, 28, 29, 30, 31, 32, 33, 34, 35, 36, 37, 38, 39, 40, 41, 42, 43, 44, 45, 46, 47, 48, 49, 50, 51, 52, 53, 54, 55, 56, 57, 58, 59, 60, 61, 62, 63, 64, 65, 66, 67, 68, 69, 70, 71, 72, 73, 74, 75, 76, 77, 78, 79, 80] (by decide +kernel) (by decide +kernel)
set_option maxRecDepth 20000 in
theorem gX6_count_X6_countOf : GoodIn wsX6_count (wsV RX6 200 RX6 yX6_countOf wsX6_countOf) := goodIn_app (goodIn_of _ (by decide +kernel)) ggX6_count_X6_countOf
theorem dX6_count_0 : decode cX6_count 0 = .ok (.aload_n 0, 1) := by decide +kernel
theorem dX6_count_1 : decode cX6_count 1 = .ok (.iload_n 1, 1) := by decide +kernel
theorem dX6_count_2 : decode cX6_count 2 = .ok (.invokevirtual 200, 3) := by decide +kernel
theorem dX6_count_5 : decode cX6_count 5 = .ok (.ireturn, 1) := by decide +kernel
theorem dX6_say_0 : decode cX6_say 0 = .ok (.aload_n 0, 1) := by decide +kernel
theorem dX6_say_1 : decode cX6_say 1 = .ok (.ldc2_w 79, 3) := by decide +kernel
theorem dX6_say_4 : decode cX6_say 4 = .ok (.aload_n 0, 1) := by decide +kernel
theorem dX6_say_5 : decode cX6_say 5 = .ok (.getfield 203, 3) := by decide +kernel
theorem dX6_say_8 : decode cX6_say 8 = .ok (.lmul, 1) := by decide +kernel
theorem dX6_say_9 : decode cX6_say 9 = .ok (.lload_n 1, 1) := by decide +kernel
theorem dX6_say_10 : decode cX6_say 10 = .ok (.ladd, 1) := by decide +kernel
theorem dX6_say_11 : decode cX6_say 11 = .ok (.putfield 203, 3) := by decide +kernel
theorem dX6_say_14 : decode cX6_say 14 = .ok (.return_, 1) := by decide +kernel
set_option maxRecDepth 20000 in
theorem ggX6_digest_X6_lay : GoodIn wsX6_digest wsX6_lay := goodIn_r _ [12, 13, 4, 14, 15, 5, 16, 17, 18, 11, 19, 20, 21, 22, 23, 24, 25, 26, 27, 28, 29, 30, 31, 3, 32, 33, 34, 35, 36, 37, 38, 39, 40, 41, 42, 43, 44, 45, 46, 47, 48, 49, 50, 51, 52, 53, 54, 55, 56, 57, 116, 117, 118, 119, 120, 121, 122, 123, 124, 125, 126, 127, 128, 129, 130, 131, 132, 133, 134, 135, 136, 137, 138, 139] (by decide +kernel) (by decide +kernel)
set_option maxRecDepth 20000 in
theorem gX6_digest_X6_lay : GoodIn wsX6_digest (wsV RX6 143 RX6 yX6_lay wsX6_lay) := goodIn_app (goodIn_of _ (by decide +kernel)) ggX6_digest_X6_lay
set_option maxRecDepth 20000 in
theorem ggX6_digest_X6_tell : GoodIn wsX6_digest wsX6_tell := goodIn_r _ [61, 36, 4, 45, 46, 11, 47, 48, 49, 50, 41, 42, 43, 44, 3, 62, 63, 64, 65, 66, 67, 68, 69, 70, 71, 116, 117, 118, 119, 120, 121, 122, 123, 124, 125, 126, 127, 128, 129, 130, 131, 132, 133, 134, 135, 136, 137, 138, 139] (by decide +kernel) (by decide +kernel)
set_option maxRecDepth 20000 in
theorem gX6_digest_X6_tell : GoodIn wsX6_digest (wsV RX6 134 RX6 yX6_tell wsX6_tell) := goodIn_app (goodIn_of _ (by decide +kernel)) ggX6_digest_X6_tell
set_option maxRecDepth 20000 in
theorem ggX6_digest_X6_say : GoodIn wsX6_digest wsX6_say := goodIn_r _ [75, 76, 2, 116, 117, 118, 119, 120, 121, 122, 123, 124, 125, 126, 127, 128, 129, 130, 131, 132, 133, 134, 135, 136, 137, 138, 139] (by decide +kernel) (by decide +kernel)
set_option maxRecDepth 20000 in
theorem gX6_digest_X6_say : GoodIn wsX6_digest (wsV RX6 209 RX6 yX6_say wsX6_say) := goodIn_app (goodIn_of _ (by decide +kernel)) ggX6_digest_X6_say
set_option maxRecDepth 20000 in
theorem ggX6_digest_X6_deepest : GoodIn wsX6_digest wsX6_deepest := goodIn_r _ [80, 5, 15, 62, 63, 11, 64, 45, 46, 47, 48, 49, 50, 116, 117, 118, 119, 120, 121, 122, 123, 124, 125, 126, 127, 128, 129, 130, 131, 132, 133, 134, 135, 136, 137, 138, 139] (by decide +kernel) (by decide +kernel)
set_option maxRecDepth 20000 in
theorem gX6_digest_X6_deepest : GoodIn wsX6_digest (wsV RX6 153 RX6 yX6_deepest wsX6_deepest) := goodIn_app (goodIn_of _ (by decide +kernel)) ggX6_digest_X6_deepest
set_option maxRecDepth 20000 in
theorem ggX6_digest_X6_fitMany : GoodIn wsX6_digest wsX6_fitMany := goodIn_r _ [84, 5, 15, 85, 86, 87, 11, 88, 89, 90, 65, 66, 67, 68, 3, 69, 70, 71, 45, 46, 47, 48, 49, 50, 116, 117, 118, 119, 120, 121, 122, 123, 124, 125, 126, 127, 128, 129, 130, 131, 132, 133, 134, 135, 136, 137, 138, 139] (by decide +kernel) (by decide +kernel)
set_option maxRecDepth 20000 in
theorem gX6_digest_X6_fitMany : GoodIn wsX6_digest (wsV RX6 162 RX6 yX6_fitMany wsX6_fitMany) := goodIn_app (goodIn_of _ (by decide +kernel)) ggX6_digest_X6_fitMany
set_option maxRecDepth 20000 in
theorem ggX6_digest_X6_askOf : GoodIn wsX6_digest wsX6_askOf := goodIn_r _ [94, 3, 81, 82, 83, 11, 84, 5, 15, 85, 86, 87, 88, 89, 90, 65, 66, 67, 68, 69, 70, 71, 45, 46, 47, 48, 49, 50, 95, 96, 97, 98, 99, 116, 117, 118, 119, 120, 121, 122, 123, 124, 125, 126, 127, 128, 129, 130, 131, 132, 133, 134, 135, 136, 137, 138, 139] (by decide +kernel) (by decide +kernel)
set_option maxRecDepth 20000 in
theorem gX6_digest_X6_askOf : GoodIn wsX6_digest (wsV RX6 168 RX6 yX6_askOf wsX6_askOf) := goodIn_app (goodIn_of _ (by decide +kernel)) ggX6_digest_X6_askOf
set_option maxRecDepth 20000 in
theorem ggX6_digest_X6_soonestOf : GoodIn wsX6_digest wsX6_soonestOf := goodIn_r _ [103, 5, 15, 13, 14, 8, 9, 10, 11, 12, 4, 16, 17, 18, 19, 20, 21, 22, 23, 24, 25, 26, 27, 28, 29, 30, 31, 3, 32, 33, 34, 35, 36, 37, 38, 39, 40, 41, 42, 43, 44, 45, 46, 47, 48, 49, 50, 51, 52, 53, 54, 55, 56, 57, 104, 105, 106, 116, 117, 118, 119, 120, 121, 122, 123, 124, 125, 126, 127, 128, 129, 130, 131, 132, 133, 134, 135, 136, 137, 138, 139] (by decide +kernel) (by decide +kernel)
set_option maxRecDepth 20000 in
theorem gX6_digest_X6_soonestOf : GoodIn wsX6_digest (wsV RX6 150 RX6 yX6_soonestOf wsX6_soonestOf) := goodIn_app (goodIn_of _ (by decide +kernel)) ggX6_digest_X6_soonestOf
set_option maxRecDepth 20000 in
theorem ggX6_digest_X6_countOf : GoodIn wsX6_digest wsX6_countOf := goodIn_r _ [110, 3, 4, 111, 89, 6, 45, 46, 11, 47, 48, 49, 50, 112, 113, 114, 115, 16, 17, 18, 19, 20, 21, 22, 23, 24, 25, 26, 27, 28, 29, 30, 31, 32, 33, 34, 35, 36, 37, 38, 39, 40, 41, 42, 43, 44, 51, 52, 53, 54, 55, 56, 57, 116, 117, 118, 119, 120, 121, 122, 123, 124, 125, 126, 127, 128, 129, 130, 131, 132, 133, 134, 135, 136, 137, 138, 139] (by decide +kernel) (by decide +kernel)
set_option maxRecDepth 20000 in
theorem gX6_digest_X6_countOf : GoodIn wsX6_digest (wsV RX6 200 RX6 yX6_countOf wsX6_countOf) := goodIn_app (goodIn_of _ (by decide +kernel)) ggX6_digest_X6_countOf
theorem dX6_digest_0 : decode cX6_digest 0 = .ok (.aload_n 0, 1) := by decide +kernel
theorem dX6_digest_1 : decode cX6_digest 1 = .ok (.ldc2_w 207, 3) := by decide +kernel
theorem dX6_digest_4 : decode cX6_digest 4 = .ok (.putfield 203, 3) := by decide +kernel
theorem dX6_digest_7 : decode cX6_digest 7 = .ok (.aload_n 0, 1) := by decide +kernel
theorem dX6_digest_8 : decode cX6_digest 8 = .ok (.invokevirtual 143, 3) := by decide +kernel
theorem dX6_digest_11 : decode cX6_digest 11 = .ok (.iconst 0, 1) := by decide +kernel
theorem dX6_digest_12 : decode cX6_digest 12 = .ok (.istore_n 1, 1) := by decide +kernel
theorem dX6_digest_13 : decode cX6_digest 13 = .ok (.iload_n 1, 1) := by decide +kernel
theorem dX6_digest_14 : decode cX6_digest 14 = .ok (.aload_n 0, 1) := by decide +kernel
theorem dX6_digest_15 : decode cX6_digest 15 = .ok (.getfield 72, 3) := by decide +kernel
theorem dX6_digest_18 : decode cX6_digest 18 = .ok (.if_icmp .ge 44, 3) := by decide +kernel
theorem dX6_digest_21 : decode cX6_digest 21 = .ok (.iconst 0, 1) := by decide +kernel
theorem dX6_digest_22 : decode cX6_digest 22 = .ok (.istore_n 2, 1) := by decide +kernel
theorem dX6_digest_23 : decode cX6_digest 23 = .ok (.iload_n 2, 1) := by decide +kernel
theorem dX6_digest_24 : decode cX6_digest 24 = .ok (.bipush 8, 2) := by decide +kernel
theorem dX6_digest_26 : decode cX6_digest 26 = .ok (.if_icmp .ge 20, 3) := by decide +kernel
theorem dX6_digest_29 : decode cX6_digest 29 = .ok (.aload_n 0, 1) := by decide +kernel
theorem dX6_digest_30 : decode cX6_digest 30 = .ok (.aload_n 0, 1) := by decide +kernel
theorem dX6_digest_31 : decode cX6_digest 31 = .ok (.iload_n 1, 1) := by decide +kernel
theorem dX6_digest_32 : decode cX6_digest 32 = .ok (.iload_n 2, 1) := by decide +kernel
theorem dX6_digest_33 : decode cX6_digest 33 = .ok (.invokevirtual 134, 3) := by decide +kernel
theorem dX6_digest_36 : decode cX6_digest 36 = .ok (.i2l, 1) := by decide +kernel
theorem dX6_digest_37 : decode cX6_digest 37 = .ok (.invokevirtual 209, 3) := by decide +kernel
theorem dX6_digest_40 : decode cX6_digest 40 = .ok (.iinc 2 1, 3) := by decide +kernel
theorem dX6_digest_43 : decode cX6_digest 43 = .ok (.goto (-20), 3) := by decide +kernel
theorem dX6_digest_46 : decode cX6_digest 46 = .ok (.aload_n 0, 1) := by decide +kernel
theorem dX6_digest_47 : decode cX6_digest 47 = .ok (.aload_n 0, 1) := by decide +kernel
theorem dX6_digest_48 : decode cX6_digest 48 = .ok (.iload_n 1, 1) := by decide +kernel
theorem dX6_digest_49 : decode cX6_digest 49 = .ok (.invokevirtual 153, 3) := by decide +kernel
theorem dX6_digest_52 : decode cX6_digest 52 = .ok (.i2l, 1) := by decide +kernel
theorem dX6_digest_53 : decode cX6_digest 53 = .ok (.invokevirtual 209, 3) := by decide +kernel
theorem dX6_digest_56 : decode cX6_digest 56 = .ok (.iinc 1 1, 3) := by decide +kernel
theorem dX6_digest_59 : decode cX6_digest 59 = .ok (.goto (-46), 3) := by decide +kernel
theorem dX6_digest_62 : decode cX6_digest 62 = .ok (.aload_n 0, 1) := by decide +kernel
theorem dX6_digest_63 : decode cX6_digest 63 = .ok (.aload_n 0, 1) := by decide +kernel
theorem dX6_digest_64 : decode cX6_digest 64 = .ok (.getfield 115, 3) := by decide +kernel
theorem dX6_digest_67 : decode cX6_digest 67 = .ok (.i2l, 1) := by decide +kernel
theorem dX6_digest_68 : decode cX6_digest 68 = .ok (.invokevirtual 209, 3) := by decide +kernel
theorem dX6_digest_71 : decode cX6_digest 71 = .ok (.aload_n 0, 1) := by decide +kernel
theorem dX6_digest_72 : decode cX6_digest 72 = .ok (.aload_n 0, 1) := by decide +kernel
theorem dX6_digest_73 : decode cX6_digest 73 = .ok (.getfield 140, 3) := by decide +kernel
theorem dX6_digest_76 : decode cX6_digest 76 = .ok (.i2l, 1) := by decide +kernel
theorem dX6_digest_77 : decode cX6_digest 77 = .ok (.invokevirtual 209, 3) := by decide +kernel
theorem dX6_digest_80 : decode cX6_digest 80 = .ok (.aload_n 0, 1) := by decide +kernel
theorem dX6_digest_81 : decode cX6_digest 81 = .ok (.aload_n 0, 1) := by decide +kernel
theorem dX6_digest_82 : decode cX6_digest 82 = .ok (.invokevirtual 162, 3) := by decide +kernel
theorem dX6_digest_85 : decode cX6_digest 85 = .ok (.i2l, 1) := by decide +kernel
theorem dX6_digest_86 : decode cX6_digest 86 = .ok (.invokevirtual 209, 3) := by decide +kernel
theorem dX6_digest_89 : decode cX6_digest 89 = .ok (.aload_n 0, 1) := by decide +kernel
theorem dX6_digest_90 : decode cX6_digest 90 = .ok (.aload_n 0, 1) := by decide +kernel
theorem dX6_digest_91 : decode cX6_digest 91 = .ok (.invokevirtual 168, 3) := by decide +kernel
theorem dX6_digest_94 : decode cX6_digest 94 = .ok (.i2l, 1) := by decide +kernel
theorem dX6_digest_95 : decode cX6_digest 95 = .ok (.invokevirtual 209, 3) := by decide +kernel
theorem dX6_digest_98 : decode cX6_digest 98 = .ok (.iconst 1, 1) := by decide +kernel
theorem dX6_digest_99 : decode cX6_digest 99 = .ok (.aload_n 0, 1) := by decide +kernel
theorem dX6_digest_100 : decode cX6_digest 100 = .ok (.getfield 72, 3) := by decide +kernel
theorem dX6_digest_103 : decode cX6_digest 103 = .ok (.ishl, 1) := by decide +kernel
theorem dX6_digest_104 : decode cX6_digest 104 = .ok (.iconst 1, 1) := by decide +kernel
theorem dX6_digest_105 : decode cX6_digest 105 = .ok (.isub, 1) := by decide +kernel
theorem dX6_digest_106 : decode cX6_digest 106 = .ok (.istore_n 1, 1) := by decide +kernel
theorem dX6_digest_107 : decode cX6_digest 107 = .ok (.aload_n 0, 1) := by decide +kernel
theorem dX6_digest_108 : decode cX6_digest 108 = .ok (.aload_n 0, 1) := by decide +kernel
theorem dX6_digest_109 : decode cX6_digest 109 = .ok (.iload_n 1, 1) := by decide +kernel
theorem dX6_digest_110 : decode cX6_digest 110 = .ok (.iconst 0, 1) := by decide +kernel
theorem dX6_digest_111 : decode cX6_digest 111 = .ok (.invokevirtual 150, 3) := by decide +kernel
theorem dX6_digest_114 : decode cX6_digest 114 = .ok (.i2l, 1) := by decide +kernel
theorem dX6_digest_115 : decode cX6_digest 115 = .ok (.invokevirtual 209, 3) := by decide +kernel
theorem dX6_digest_118 : decode cX6_digest 118 = .ok (.aload_n 0, 1) := by decide +kernel
theorem dX6_digest_119 : decode cX6_digest 119 = .ok (.aload_n 0, 1) := by decide +kernel
theorem dX6_digest_120 : decode cX6_digest 120 = .ok (.iload_n 1, 1) := by decide +kernel
theorem dX6_digest_121 : decode cX6_digest 121 = .ok (.iconst 1, 1) := by decide +kernel
theorem dX6_digest_122 : decode cX6_digest 122 = .ok (.invokevirtual 150, 3) := by decide +kernel
theorem dX6_digest_125 : decode cX6_digest 125 = .ok (.i2l, 1) := by decide +kernel
theorem dX6_digest_126 : decode cX6_digest 126 = .ok (.invokevirtual 209, 3) := by decide +kernel
theorem dX6_digest_129 : decode cX6_digest 129 = .ok (.iconst 0, 1) := by decide +kernel
theorem dX6_digest_130 : decode cX6_digest 130 = .ok (.istore_n 2, 1) := by decide +kernel
theorem dX6_digest_131 : decode cX6_digest 131 = .ok (.iload_n 2, 1) := by decide +kernel
theorem dX6_digest_132 : decode cX6_digest 132 = .ok (.aload_n 0, 1) := by decide +kernel
theorem dX6_digest_133 : decode cX6_digest 133 = .ok (.getfield 47, 3) := by decide +kernel
theorem dX6_digest_136 : decode cX6_digest 136 = .ok (.if_icmp .ge 20, 3) := by decide +kernel
theorem dX6_digest_139 : decode cX6_digest 139 = .ok (.aload_n 0, 1) := by decide +kernel
theorem dX6_digest_140 : decode cX6_digest 140 = .ok (.aload_n 0, 1) := by decide +kernel
theorem dX6_digest_141 : decode cX6_digest 141 = .ok (.getfield 7, 3) := by decide +kernel
theorem dX6_digest_144 : decode cX6_digest 144 = .ok (.iload_n 2, 1) := by decide +kernel
theorem dX6_digest_145 : decode cX6_digest 145 = .ok (.iaload, 1) := by decide +kernel
theorem dX6_digest_146 : decode cX6_digest 146 = .ok (.i2l, 1) := by decide +kernel
theorem dX6_digest_147 : decode cX6_digest 147 = .ok (.invokevirtual 209, 3) := by decide +kernel
theorem dX6_digest_150 : decode cX6_digest 150 = .ok (.iinc 2 1, 3) := by decide +kernel
theorem dX6_digest_153 : decode cX6_digest 153 = .ok (.goto (-22), 3) := by decide +kernel
theorem dX6_digest_156 : decode cX6_digest 156 = .ok (.iconst 0, 1) := by decide +kernel
theorem dX6_digest_157 : decode cX6_digest 157 = .ok (.istore_n 2, 1) := by decide +kernel
theorem dX6_digest_158 : decode cX6_digest 158 = .ok (.iload_n 2, 1) := by decide +kernel
theorem dX6_digest_159 : decode cX6_digest 159 = .ok (.bipush 6, 2) := by decide +kernel
theorem dX6_digest_161 : decode cX6_digest 161 = .ok (.if_icmp .ge 19, 3) := by decide +kernel
theorem dX6_digest_164 : decode cX6_digest 164 = .ok (.aload_n 0, 1) := by decide +kernel
theorem dX6_digest_165 : decode cX6_digest 165 = .ok (.aload_n 0, 1) := by decide +kernel
theorem dX6_digest_166 : decode cX6_digest 166 = .ok (.iload_n 2, 1) := by decide +kernel
theorem dX6_digest_167 : decode cX6_digest 167 = .ok (.invokevirtual 200, 3) := by decide +kernel
theorem dX6_digest_170 : decode cX6_digest 170 = .ok (.i2l, 1) := by decide +kernel
theorem dX6_digest_171 : decode cX6_digest 171 = .ok (.invokevirtual 209, 3) := by decide +kernel
theorem dX6_digest_174 : decode cX6_digest 174 = .ok (.iinc 2 1, 3) := by decide +kernel
theorem dX6_digest_177 : decode cX6_digest 177 = .ok (.goto (-19), 3) := by decide +kernel
theorem dX6_digest_180 : decode cX6_digest 180 = .ok (.aload_n 0, 1) := by decide +kernel
theorem dX6_digest_181 : decode cX6_digest 181 = .ok (.getfield 203, 3) := by decide +kernel
theorem dX6_digest_184 : decode cX6_digest 184 = .ok (.lreturn, 1) := by decide +kernel
