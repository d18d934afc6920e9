set_option maxRecDepth 20000 in
theorem ggX5_init_X0_init : GoodIn wsX5_init wsX0_init := goodIn_r _ [28, 29, 2, 3, 30, 31, 69, 70] (by decide +kernel) (by decide +kernel)
set_option maxRecDepth 20000 in
theorem gX5_init_X0_init_n11 : GoodIn wsX5_init (wsX0_init) := ggX5_init_X0_init
set_option maxRecDepth 20000 in
theorem ggX5_init_X1_init : GoodIn wsX5_init wsX1_init := goodIn_r _ [34, 35, 2, 3, 30, 36, 37, 38, 39, 40, 41, 82, 83] (by decide +kernel) (by decide +kernel)
set_option maxRecDepth 20000 in
theorem gX5_init_X1_init : GoodIn wsX5_init (wsX1_init) := ggX5_init_X1_init
set_option maxRecDepth 20000 in
theorem ggX5_init_X2_init : GoodIn wsX5_init wsX2_init := goodIn_r _ [44, 45, 2, 3, 30, 46, 47, 48, 49, 50, 51, 52, 53, 54, 55, 9, 10, 56, 57, 58, 33, 34, 35, 36, 37, 38, 39, 40, 41, 84, 85, 86, 87, 88, 89, 90, 91, 92, 93, 94, 82, 83] (by decide +kernel) (by decide +kernel)
set_option maxRecDepth 20000 in
theorem gX5_init_X2_init : GoodIn wsX5_init (wsX2_init) := ggX5_init_X2_init
set_option maxRecDepth 20000 in
theorem ggX5_init_X3_init : GoodIn wsX5_init wsX3_init := goodIn_r _ [60, 61, 2, 3, 30, 62, 63, 95, 96, 97, 98, 99, 100, 101] (by decide +kernel) (by decide +kernel)
set_option maxRecDepth 20000 in
theorem gX5_init_X3_init_n37 : GoodIn wsX5_init (wsX3_init) := ggX5_init_X3_init
set_option maxRecDepth 20000 in
theorem ggX5_init_X4_init : GoodIn wsX5_init wsX4_init := goodIn_r _ [65, 66, 2, 3, 30, 67, 68, 102, 103, 104] (by decide +kernel) (by decide +kernel)
set_option maxRecDepth 20000 in
theorem gX5_init_X4_init_n44 : GoodIn wsX5_init (wsX4_init) := ggX5_init_X4_init
theorem dX5_init_0 : decode cX5_init 0 = .ok (.aload_n 0, 1) := by decide +kernel
theorem dX5_init_1 : decode cX5_init 1 = .ok (.invokespecial 3, 3) := by decide +kernel
theorem dX5_init_4 : decode cX5_init 4 = .ok (.aload_n 0, 1) := by decide +kernel
theorem dX5_init_5 : decode cX5_init 5 = .ok (.new 9, 3) := by decide +kernel
theorem dX5_init_8 : decode cX5_init 8 = .ok (.dup, 1) := by decide +kernel
theorem dX5_init_9 : decode cX5_init 9 = .ok (.invokespecial 11, 3) := by decide +kernel
theorem dX5_init_12 : decode cX5_init 12 = .ok (.putfield 12, 3) := by decide +kernel
theorem dX5_init_15 : decode cX5_init 15 = .ok (.aload_n 0, 1) := by decide +kernel
theorem dX5_init_16 : decode cX5_init 16 = .ok (.new 16, 3) := by decide +kernel
theorem dX5_init_19 : decode cX5_init 19 = .ok (.dup, 1) := by decide +kernel
theorem dX5_init_20 : decode cX5_init 20 = .ok (.aload_n 0, 1) := by decide +kernel
theorem dX5_init_21 : decode cX5_init 21 = .ok (.getfield 12, 3) := by decide +kernel
theorem dX5_init_24 : decode cX5_init 24 = .ok (.invokespecial 18, 3) := by decide +kernel
theorem dX5_init_27 : decode cX5_init 27 = .ok (.putfield 21, 3) := by decide +kernel
theorem dX5_init_30 : decode cX5_init 30 = .ok (.aload_n 0, 1) := by decide +kernel
theorem dX5_init_31 : decode cX5_init 31 = .ok (.new 16, 3) := by decide +kernel
theorem dX5_init_34 : decode cX5_init 34 = .ok (.dup, 1) := by decide +kernel
theorem dX5_init_35 : decode cX5_init 35 = .ok (.aload_n 0, 1) := by decide +kernel
theorem dX5_init_36 : decode cX5_init 36 = .ok (.getfield 12, 3) := by decide +kernel
theorem dX5_init_39 : decode cX5_init 39 = .ok (.invokespecial 18, 3) := by decide +kernel
theorem dX5_init_42 : decode cX5_init 42 = .ok (.putfield 25, 3) := by decide +kernel
theorem dX5_init_45 : decode cX5_init 45 = .ok (.aload_n 0, 1) := by decide +kernel
theorem dX5_init_46 : decode cX5_init 46 = .ok (.new 28, 3) := by decide +kernel
theorem dX5_init_49 : decode cX5_init 49 = .ok (.dup, 1) := by decide +kernel
theorem dX5_init_50 : decode cX5_init 50 = .ok (.aload_n 0, 1) := by decide +kernel
theorem dX5_init_51 : decode cX5_init 51 = .ok (.getfield 12, 3) := by decide +kernel
theorem dX5_init_54 : decode cX5_init 54 = .ok (.invokespecial 30, 3) := by decide +kernel
theorem dX5_init_57 : decode cX5_init 57 = .ok (.putfield 31, 3) := by decide +kernel
theorem dX5_init_60 : decode cX5_init 60 = .ok (.aload_n 0, 1) := by decide +kernel
theorem dX5_init_61 : decode cX5_init 61 = .ok (.new 35, 3) := by decide +kernel
theorem dX5_init_64 : decode cX5_init 64 = .ok (.dup, 1) := by decide +kernel
theorem dX5_init_65 : decode cX5_init 65 = .ok (.invokespecial 37, 3) := by decide +kernel
theorem dX5_init_68 : decode cX5_init 68 = .ok (.putfield 38, 3) := by decide +kernel
theorem dX5_init_71 : decode cX5_init 71 = .ok (.aload_n 0, 1) := by decide +kernel
theorem dX5_init_72 : decode cX5_init 72 = .ok (.new 42, 3) := by decide +kernel
theorem dX5_init_75 : decode cX5_init 75 = .ok (.dup, 1) := by decide +kernel
theorem dX5_init_76 : decode cX5_init 76 = .ok (.invokespecial 44, 3) := by decide +kernel
theorem dX5_init_79 : decode cX5_init 79 = .ok (.putfield 45, 3) := by decide +kernel
theorem dX5_init_82 : decode cX5_init 82 = .ok (.aload_n 0, 1) := by decide +kernel
theorem dX5_init_83 : decode cX5_init 83 = .ok (.new 42, 3) := by decide +kernel
theorem dX5_init_86 : decode cX5_init 86 = .ok (.dup, 1) := by decide +kernel
theorem dX5_init_87 : decode cX5_init 87 = .ok (.invokespecial 44, 3) := by decide +kernel
theorem dX5_init_90 : decode cX5_init 90 = .ok (.putfield 49, 3) := by decide +kernel
theorem dX5_init_93 : decode cX5_init 93 = .ok (.aload_n 0, 1) := by decide +kernel
theorem dX5_init_94 : decode cX5_init 94 = .ok (.iconst (-1), 1) := by decide +kernel
theorem dX5_init_95 : decode cX5_init 95 = .ok (.putfield 52, 3) := by decide +kernel
theorem dX5_init_98 : decode cX5_init 98 = .ok (.return_, 1) := by decide +kernel
set_option maxRecDepth 20000 in
theorem ggX5_letter_X3_write : GoodIn wsX5_letter wsX3_write := goodIn_r _ [6, 7, 8, 24, 25, 26, 27, 28, 29, 30] (by decide +kernel) (by decide +kernel)
set_option maxRecDepth 20000 in
theorem gX5_letter_X3_write : GoodIn wsX5_letter (wsV RX5 56 RX3 yX3_write wsX3_write) := goodIn_app (goodIn_of _ (by decide +kernel)) ggX5_letter_X3_write
set_option maxRecDepth 20000 in
theorem ggX5_letter_X3_length : GoodIn wsX5_letter wsX3_length := goodIn_r _ [12, 7, 24, 25, 26, 27, 28, 29, 30] (by decide +kernel) (by decide +kernel)
set_option maxRecDepth 20000 in
theorem gX5_letter_X3_length : GoodIn wsX5_letter (wsV RX5 60 RX3 yX3_length wsX3_length) := goodIn_app (goodIn_of _ (by decide +kernel)) ggX5_letter_X3_length
theorem dX5_letter_0 : decode cX5_letter 0 = .ok (.iload_n 1, 1) := by decide +kernel
theorem dX5_letter_1 : decode cX5_letter 1 = .ok (.iconst 1, 1) := by decide +kernel
theorem dX5_letter_2 : decode cX5_letter 2 = .ok (.if_icmp .lt 9, 3) := by decide +kernel
theorem dX5_letter_5 : decode cX5_letter 5 = .ok (.iload_n 1, 1) := by decide +kernel
theorem dX5_letter_6 : decode cX5_letter 6 = .ok (.bipush 126, 2) := by decide +kernel
theorem dX5_letter_8 : decode cX5_letter 8 = .ok (.if_icmp .le 6, 3) := by decide +kernel
theorem dX5_letter_11 : decode cX5_letter 11 = .ok (.bipush (-102), 2) := by decide +kernel
theorem dX5_letter_13 : decode cX5_letter 13 = .ok (.ireturn, 1) := by decide +kernel
theorem dX5_letter_14 : decode cX5_letter 14 = .ok (.aload_n 0, 1) := by decide +kernel
theorem dX5_letter_15 : decode cX5_letter 15 = .ok (.getfield 38, 3) := by decide +kernel
theorem dX5_letter_18 : decode cX5_letter 18 = .ok (.iload_n 1, 1) := by decide +kernel
theorem dX5_letter_19 : decode cX5_letter 19 = .ok (.invokevirtual 56, 3) := by decide +kernel
theorem dX5_letter_22 : decode cX5_letter 22 = .ok (.ifCond .eq 13, 3) := by decide +kernel
theorem dX5_letter_25 : decode cX5_letter 25 = .ok (.aload_n 0, 1) := by decide +kernel
theorem dX5_letter_26 : decode cX5_letter 26 = .ok (.getfield 38, 3) := by decide +kernel
theorem dX5_letter_29 : decode cX5_letter 29 = .ok (.invokevirtual 60, 3) := by decide +kernel
theorem dX5_letter_32 : decode cX5_letter 32 = .ok (.goto 5, 3) := by decide +kernel
theorem dX5_letter_35 : decode cX5_letter 35 = .ok (.bipush (-104), 2) := by decide +kernel
theorem dX5_letter_37 : decode cX5_letter 37 = .ok (.ireturn, 1) := by decide +kernel
set_option maxRecDepth 20000 in
theorem ggX5_blank_X3_clear : GoodIn wsX5_blank wsX3_clear := goodIn_r _ [6, 7, 19, 20, 21, 22, 23, 24, 25] (by decide +kernel) (by decide +kernel)
set_option maxRecDepth 20000 in
theorem gX5_blank_X3_clear : GoodIn wsX5_blank (wsV RX5 64 RX3 yX3_clear wsX3_clear) := goodIn_app (goodIn_of _ (by decide +kernel)) ggX5_blank_X3_clear
theorem dX5_blank_0 : decode cX5_blank 0 = .ok (.aload_n 0, 1) := by decide +kernel
theorem dX5_blank_1 : decode cX5_blank 1 = .ok (.getfield 38, 3) := by decide +kernel
theorem dX5_blank_4 : decode cX5_blank 4 = .ok (.invokevirtual 64, 3) := by decide +kernel
theorem dX5_blank_7 : decode cX5_blank 7 = .ok (.ireturn, 1) := by decide +kernel
set_option maxRecDepth 20000 in
theorem ggX5_fault_X3_read : GoodIn wsX5_fault wsX3_read := goodIn_r _ [6, 7, 8, 9, 10, 11, 12, 13, 14, 5, 15, 16, 17, 18, 19, 20, 21, 22, 23, 24, 25, 37, 38, 39, 40, 41, 42, 43] (by decide +kernel) (by decide +kernel)
set_option maxRecDepth 20000 in
theorem gX5_fault_X3_read : GoodIn wsX5_fault (wsV RX5 67 RX3 yX3_read wsX3_read) := goodIn_app (goodIn_of _ (by decide +kernel)) ggX5_fault_X3_read
theorem dX5_fault_0 : decode cX5_fault 0 = .ok (.aload_n 0, 1) := by decide +kernel
theorem dX5_fault_1 : decode cX5_fault 1 = .ok (.getfield 38, 3) := by decide +kernel
theorem dX5_fault_4 : decode cX5_fault 4 = .ok (.invokevirtual 67, 3) := by decide +kernel
theorem dX5_fault_7 : decode cX5_fault 7 = .ok (.ireturn, 1) := by decide +kernel
set_option maxRecDepth 20000 in
theorem ggX5_tale_X3_read : GoodIn wsX5_tale wsX3_read := goodIn_r _ [8, 9, 10, 11, 12, 13, 14, 15, 16, 7, 17, 18, 19, 20, 21, 22, 23, 24, 25, 26, 27, 127, 128, 129, 130, 131, 132, 133] (by decide +kernel) (by decide +kernel)
set_option maxRecDepth 20000 in
theorem gX5_tale_X3_read : GoodIn wsX5_tale (wsV RX5 67 RX3 yX3_read wsX3_read) := goodIn_app (goodIn_of _ (by decide +kernel)) ggX5_tale_X3_read
set_option maxRecDepth 20000 in
theorem ggX5_tale_X3_length : GoodIn wsX5_tale wsX3_length := goodIn_r _ [31, 12, 127, 128, 129, 130, 131, 132, 133] (by decide +kernel) (by decide +kernel)
set_option maxRecDepth 20000 in
theorem gX5_tale_X3_length : GoodIn wsX5_tale (wsV RX5 60 RX3 yX3_length wsX3_length) := goodIn_app (goodIn_of _ (by decide +kernel)) ggX5_tale_X3_length
set_option maxRecDepth 20000 in
theorem ggX5_tale_X3_isWhole : GoodIn wsX5_tale wsX3_isWhole := goodIn_r _ [35, 11, 127, 128, 129, 130, 131, 132, 133] (by decide +kernel) (by decide +kernel)
set_option maxRecDepth 20000 in
theorem gX5_tale_X3_isWhole : GoodIn wsX5_tale (wsV RX5 70 RX3 yX3_isWhole wsX3_isWhole) := goodIn_app (goodIn_of _ (by decide +kernel)) ggX5_tale_X3_isWhole
set_option maxRecDepth 20000 in
theorem ggX5_tale_X1_copy : GoodIn wsX5_tale wsX1_copy := goodIn_r _ [40, 41, 42, 43, 44, 39, 45, 134, 135] (by decide +kernel) (by decide +kernel)
set_option maxRecDepth 20000 in
theorem gX5_tale_X1_copy : GoodIn wsX5_tale (wsV RX5 74 RX1 yX1_copy wsX1_copy) := goodIn_app (goodIn_of _ (by decide +kernel)) ggX5_tale_X1_copy
set_option maxRecDepth 20000 in
theorem ggX5_tale_X3_deeds : GoodIn wsX5_tale wsX3_deeds := goodIn_r _ [49, 9, 127, 128, 129, 130, 131, 132, 133] (by decide +kernel) (by decide +kernel)
set_option maxRecDepth 20000 in
theorem gX5_tale_X3_deeds : GoodIn wsX5_tale (wsV RX5 78 RX3 yX3_deeds wsX3_deeds) := goodIn_app (goodIn_of _ (by decide +kernel)) ggX5_tale_X3_deeds
set_option maxRecDepth 20000 in
theorem ggX5_tale_X3_deedAt : GoodIn wsX5_tale wsX3_deedAt := goodIn_r _ [53, 23, 127, 128, 129, 130, 131, 132, 133] (by decide +kernel) (by decide +kernel)
set_option maxRecDepth 20000 in
theorem gX5_tale_X3_deedAt : GoodIn wsX5_tale (wsV RX5 81 RX3 yX3_deedAt wsX3_deedAt) := goodIn_app (goodIn_of _ (by decide +kernel)) ggX5_tale_X3_deedAt
set_option maxRecDepth 20000 in
theorem ggX5_tale_X1_allows : GoodIn wsX5_tale wsX1_allows := goodIn_r _ [57, 58, 59, 60, 61, 62, 63, 64, 65, 66, 67, 68, 69, 70, 71, 72, 73, 74, 75, 76, 77, 78, 79, 39, 80, 42, 43, 44, 45, 41, 81, 82, 83, 84, 85, 86, 87, 88, 89, 90, 91, 92, 93, 94, 95, 96, 97, 98, 99, 100, 101, 102, 103, 104, 105, 106, 107, 134, 135, 136, 137] (by decide +kernel) (by decide +kernel)
set_option maxRecDepth 20000 in
theorem gX5_tale_X1_allows : GoodIn wsX5_tale (wsV RX5 85 RX1 yX1_allows wsX1_allows) := goodIn_app (goodIn_of _ (by decide +kernel)) ggX5_tale_X1_allows
set_option maxRecDepth 20000 in
theorem ggX5_tale_X1_carryOut : GoodIn wsX5_tale wsX1_carryOut := goodIn_r _ [111, 41, 67, 65, 68, 74, 75, 76, 112, 113, 114, 39, 115, 100, 101, 102, 103, 58, 81, 82, 83, 62, 84, 85, 86, 87, 88, 89, 90, 96, 97, 98, 99, 73, 42, 43, 44, 45, 134, 135, 136, 137] (by decide +kernel) (by decide +kernel)
set_option maxRecDepth 20000 in
theorem gX5_tale_X1_carryOut : GoodIn wsX5_tale (wsV RX5 88 RX1 yX1_carryOut wsX1_carryOut) := goodIn_app (goodIn_of _ (by decide +kernel)) ggX5_tale_X1_carryOut
theorem dX5_tale_0 : decode cX5_tale 0 = .ok (.aload_n 0, 1) := by decide +kernel
theorem dX5_tale_1 : decode cX5_tale 1 = .ok (.getfield 38, 3) := by decide +kernel
theorem dX5_tale_4 : decode cX5_tale 4 = .ok (.invokevirtual 67, 3) := by decide +kernel
theorem dX5_tale_7 : decode cX5_tale 7 = .ok (.aload_n 0, 1) := by decide +kernel
theorem dX5_tale_8 : decode cX5_tale 8 = .ok (.getfield 38, 3) := by decide +kernel
theorem dX5_tale_11 : decode cX5_tale 11 = .ok (.invokevirtual 60, 3) := by decide +kernel
theorem dX5_tale_14 : decode cX5_tale 14 = .ok (.if_icmp .lt 13, 3) := by decide +kernel
theorem dX5_tale_17 : decode cX5_tale 17 = .ok (.aload_n 0, 1) := by decide +kernel
theorem dX5_tale_18 : decode cX5_tale 18 = .ok (.getfield 38, 3) := by decide +kernel
theorem dX5_tale_21 : decode cX5_tale 21 = .ok (.invokevirtual 70, 3) := by decide +kernel
theorem dX5_tale_24 : decode cX5_tale 24 = .ok (.ifCond .ne 6, 3) := by decide +kernel
theorem dX5_tale_27 : decode cX5_tale 27 = .ok (.bipush (-103), 2) := by decide +kernel
theorem dX5_tale_29 : decode cX5_tale 29 = .ok (.ireturn, 1) := by decide +kernel
theorem dX5_tale_30 : decode cX5_tale 30 = .ok (.aload_n 0, 1) := by decide +kernel
theorem dX5_tale_31 : decode cX5_tale 31 = .ok (.getfield 25, 3) := by decide +kernel
theorem dX5_tale_34 : decode cX5_tale 34 = .ok (.aload_n 0, 1) := by decide +kernel
theorem dX5_tale_35 : decode cX5_tale 35 = .ok (.getfield 21, 3) := by decide +kernel
theorem dX5_tale_38 : decode cX5_tale 38 = .ok (.invokevirtual 74, 3) := by decide +kernel
theorem dX5_tale_41 : decode cX5_tale 41 = .ok (.iconst 0, 1) := by decide +kernel
theorem dX5_tale_42 : decode cX5_tale 42 = .ok (.istore_n 1, 1) := by decide +kernel
theorem dX5_tale_43 : decode cX5_tale 43 = .ok (.iload_n 1, 1) := by decide +kernel
theorem dX5_tale_44 : decode cX5_tale 44 = .ok (.aload_n 0, 1) := by decide +kernel
theorem dX5_tale_45 : decode cX5_tale 45 = .ok (.getfield 38, 3) := by decide +kernel
theorem dX5_tale_48 : decode cX5_tale 48 = .ok (.invokevirtual 78, 3) := by decide +kernel
theorem dX5_tale_51 : decode cX5_tale 51 = .ok (.if_icmp .ge 42, 3) := by decide +kernel
theorem dX5_tale_54 : decode cX5_tale 54 = .ok (.aload_n 0, 1) := by decide +kernel
theorem dX5_tale_55 : decode cX5_tale 55 = .ok (.getfield 25, 3) := by decide +kernel
theorem dX5_tale_58 : decode cX5_tale 58 = .ok (.aload_n 0, 1) := by decide +kernel
theorem dX5_tale_59 : decode cX5_tale 59 = .ok (.getfield 38, 3) := by decide +kernel
theorem dX5_tale_62 : decode cX5_tale 62 = .ok (.iload_n 1, 1) := by decide +kernel
theorem dX5_tale_63 : decode cX5_tale 63 = .ok (.invokevirtual 81, 3) := by decide +kernel
theorem dX5_tale_66 : decode cX5_tale 66 = .ok (.invokevirtual 85, 3) := by decide +kernel
theorem dX5_tale_69 : decode cX5_tale 69 = .ok (.ifCond .eq 24, 3) := by decide +kernel
theorem dX5_tale_72 : decode cX5_tale 72 = .ok (.aload_n 0, 1) := by decide +kernel
theorem dX5_tale_73 : decode cX5_tale 73 = .ok (.getfield 25, 3) := by decide +kernel
theorem dX5_tale_76 : decode cX5_tale 76 = .ok (.aload_n 0, 1) := by decide +kernel
theorem dX5_tale_77 : decode cX5_tale 77 = .ok (.getfield 38, 3) := by decide +kernel
theorem dX5_tale_80 : decode cX5_tale 80 = .ok (.iload_n 1, 1) := by decide +kernel
theorem dX5_tale_81 : decode cX5_tale 81 = .ok (.invokevirtual 81, 3) := by decide +kernel
theorem dX5_tale_84 : decode cX5_tale 84 = .ok (.invokevirtual 88, 3) := by decide +kernel
theorem dX5_tale_87 : decode cX5_tale 87 = .ok (.iinc 1 1, 3) := by decide +kernel
theorem dX5_tale_90 : decode cX5_tale 90 = .ok (.goto (-47), 3) := by decide +kernel
theorem dX5_tale_93 : decode cX5_tale 93 = .ok (.iload_n 1, 1) := by decide +kernel
theorem dX5_tale_94 : decode cX5_tale 94 = .ok (.ireturn, 1) := by decide +kernel
set_option maxRecDepth 20000 in
theorem ggX5_being_X5_isBetween : GoodIn wsX5_being wsX5_isBetween := goodIn_r _ [5] (by decide +kernel) (by decide +kernel)
set_option maxRecDepth 20000 in
theorem gX5_being_X5_isBetween : GoodIn wsX5_being (va_wsS RX5 92 yX5_isBetween wsX5_isBetween) := goodIn_app (goodIn_of _ (by decide +kernel)) ggX5_being_X5_isBetween
set_option maxRecDepth 20000 in
theorem ggX5_being_X0_join : GoodIn wsX5_being wsX0_join := goodIn_r _ [10, 11, 12, 24, 25] (by decide +kernel) (by decide +kernel)
set_option maxRecDepth 20000 in
theorem gX5_being_X0_join : GoodIn wsX5_being (wsV RX5 96 RX0 yX0_join wsX0_join) := goodIn_app (goodIn_of _ (by decide +kernel)) ggX5_being_X0_join
theorem dX5_being_0 : decode cX5_being 0 = .ok (.iload_n 1, 1) := by decide +kernel
theorem dX5_being_1 : decode cX5_being 1 = .ok (.iconst 0, 1) := by decide +kernel
theorem dX5_being_2 : decode cX5_being 2 = .ok (.iconst 4, 1) := by decide +kernel
theorem dX5_being_3 : decode cX5_being 3 = .ok (.invokestatic 92, 3) := by decide +kernel
theorem dX5_being_6 : decode cX5_being 6 = .ok (.ifCond .eq 34, 3) := by decide +kernel
theorem dX5_being_9 : decode cX5_being 9 = .ok (.iload_n 2, 1) := by decide +kernel
theorem dX5_being_10 : decode cX5_being 10 = .ok (.iconst 1, 1) := by decide +kernel
theorem dX5_being_11 : decode cX5_being 11 = .ok (.bipush 9, 2) := by decide +kernel
theorem dX5_being_13 : decode cX5_being 13 = .ok (.invokestatic 92, 3) := by decide +kernel
theorem dX5_being_16 : decode cX5_being 16 = .ok (.ifCond .eq 24, 3) := by decide +kernel
theorem dX5_being_19 : decode cX5_being 19 = .ok (.iload_n 3, 1) := by decide +kernel
theorem dX5_being_20 : decode cX5_being 20 = .ok (.iconst 0, 1) := by decide +kernel
theorem dX5_being_21 : decode cX5_being 21 = .ok (.bipush 20, 2) := by decide +kernel
theorem dX5_being_23 : decode cX5_being 23 = .ok (.invokestatic 92, 3) := by decide +kernel
theorem dX5_being_26 : decode cX5_being 26 = .ok (.ifCond .eq 14, 3) := by decide +kernel
theorem dX5_being_29 : decode cX5_being 29 = .ok (.iload 4, 2) := by decide +kernel
theorem dX5_being_31 : decode cX5_being 31 = .ok (.iconst 0, 1) := by decide +kernel
theorem dX5_being_32 : decode cX5_being 32 = .ok (.bipush 31, 2) := by decide +kernel
theorem dX5_being_34 : decode cX5_being 34 = .ok (.invokestatic 92, 3) := by decide +kernel
theorem dX5_being_37 : decode cX5_being 37 = .ok (.ifCond .ne 6, 3) := by decide +kernel
theorem dX5_being_40 : decode cX5_being 40 = .ok (.bipush (-102), 2) := by decide +kernel
theorem dX5_being_42 : decode cX5_being 42 = .ok (.ireturn, 1) := by decide +kernel
theorem dX5_being_43 : decode cX5_being 43 = .ok (.aload_n 0, 1) := by decide +kernel
theorem dX5_being_44 : decode cX5_being 44 = .ok (.getfield 12, 3) := by decide +kernel
theorem dX5_being_47 : decode cX5_being 47 = .ok (.iload_n 1, 1) := by decide +kernel
theorem dX5_being_48 : decode cX5_being 48 = .ok (.iload_n 2, 1) := by decide +kernel
theorem dX5_being_49 : decode cX5_being 49 = .ok (.iload_n 3, 1) := by decide +kernel
theorem dX5_being_50 : decode cX5_being 50 = .ok (.iload 4, 2) := by decide +kernel
theorem dX5_being_52 : decode cX5_being 52 = .ok (.invokevirtual 96, 3) := by decide +kernel
theorem dX5_being_55 : decode cX5_being 55 = .ok (.istore 5, 2) := by decide +kernel
theorem dX5_being_57 : decode cX5_being 57 = .ok (.iload 5, 2) := by decide +kernel
theorem dX5_being_59 : decode cX5_being 59 = .ok (.iconst (-1), 1) := by decide +kernel
theorem dX5_being_60 : decode cX5_being 60 = .ok (.if_icmp .ne 8, 3) := by decide +kernel
theorem dX5_being_63 : decode cX5_being 63 = .ok (.bipush (-104), 2) := by decide +kernel
theorem dX5_being_65 : decode cX5_being 65 = .ok (.goto 5, 3) := by decide +kernel
theorem dX5_being_68 : decode cX5_being 68 = .ok (.iload 5, 2) := by decide +kernel
theorem dX5_being_70 : decode cX5_being 70 = .ok (.ireturn, 1) := by decide +kernel
set_option maxRecDepth 20000 in
theorem ggX5_about_X0_has : GoodIn wsX5_about wsX0_has := goodIn_r _ [7, 8, 54, 55] (by decide +kernel) (by decide +kernel)
set_option maxRecDepth 20000 in
theorem gX5_about_X0_has : GoodIn wsX5_about (wsV RX5 100 RX0 yX0_has wsX0_has) := goodIn_app (goodIn_of _ (by decide +kernel)) ggX5_about_X0_has
set_option maxRecDepth 20000 in
theorem ggX5_about_X0_trait : GoodIn wsX5_about wsX0_trait := goodIn_r _ [12, 13, 54, 55] (by decide +kernel) (by decide +kernel)
set_option maxRecDepth 20000 in
theorem gX5_about_X0_trait : GoodIn wsX5_about (wsV RX5 103 RX0 yX0_trait wsX0_trait) := goodIn_app (goodIn_of _ (by decide +kernel)) ggX5_about_X0_trait
set_option maxRecDepth 20000 in
theorem ggX5_about_X1_holder : GoodIn wsX5_about wsX1_holder := goodIn_r _ [18, 19, 56, 57] (by decide +kernel) (by decide +kernel)
set_option maxRecDepth 20000 in
theorem gX5_about_X1_holder : GoodIn wsX5_about (wsV RX5 107 RX1 yX1_holder wsX1_holder) := goodIn_app (goodIn_of _ (by decide +kernel)) ggX5_about_X1_holder
set_option maxRecDepth 20000 in
theorem ggX5_about_X1_filled : GoodIn wsX5_about wsX1_filled := goodIn_r _ [23, 24, 25, 26, 27, 6, 28, 8, 29, 15, 16, 17, 18, 19, 30, 10, 11, 12, 13, 56, 57, 54, 55] (by decide +kernel) (by decide +kernel)
set_option maxRecDepth 20000 in
theorem gX5_about_X1_filled : GoodIn wsX5_about (wsV RX5 110 RX1 yX1_filled wsX1_filled) := goodIn_app (goodIn_of _ (by decide +kernel)) ggX5_about_X1_filled
set_option maxRecDepth 20000 in
theorem ggX5_about_X1_walls : GoodIn wsX5_about wsX1_walls := goodIn_r _ [34, 29, 15, 16, 17, 18, 19, 56, 57] (by decide +kernel) (by decide +kernel)
set_option maxRecDepth 20000 in
theorem gX5_about_X1_walls : GoodIn wsX5_about (wsV RX5 113 RX1 yX1_walls wsX1_walls) := goodIn_app (goodIn_of _ (by decide +kernel)) ggX5_about_X1_walls
set_option maxRecDepth 20000 in
theorem ggX5_about_X1_heardBy : GoodIn wsX5_about wsX1_heardBy := goodIn_r _ [38, 24, 25, 26, 27, 6, 28, 8, 39, 40, 41, 17, 42, 29, 15, 16, 18, 19, 56, 57, 54, 55] (by decide +kernel) (by decide +kernel)
set_option maxRecDepth 20000 in
theorem gX5_about_X1_heardBy : GoodIn wsX5_about (wsV RX5 116 RX1 yX1_heardBy wsX1_heardBy) := goodIn_app (goodIn_of _ (by decide +kernel)) ggX5_about_X1_heardBy
theorem dX5_about_0 : decode cX5_about 0 = .ok (.aload_n 0, 1) := by decide +kernel
theorem dX5_about_1 : decode cX5_about 1 = .ok (.getfield 12, 3) := by decide +kernel
theorem dX5_about_4 : decode cX5_about 4 = .ok (.iload_n 1, 1) := by decide +kernel
theorem dX5_about_5 : decode cX5_about 5 = .ok (.invokevirtual 100, 3) := by decide +kernel
theorem dX5_about_8 : decode cX5_about 8 = .ok (.ifCond .ne 6, 3) := by decide +kernel
theorem dX5_about_11 : decode cX5_about 11 = .ok (.bipush (-101), 2) := by decide +kernel
theorem dX5_about_13 : decode cX5_about 13 = .ok (.ireturn, 1) := by decide +kernel
theorem dX5_about_14 : decode cX5_about 14 = .ok (.iload_n 2, 1) := by decide +kernel
theorem dX5_about_15 : decode cX5_about 15 = .ok (.tableswitch 121 0 7 #[45, 55, 65, 75, 85, 94, 103, 112], 45) := by decide +kernel
theorem dX5_about_60 : decode cX5_about 60 = .ok (.aload_n 0, 1) := by decide +kernel
theorem dX5_about_61 : decode cX5_about 61 = .ok (.getfield 12, 3) := by decide +kernel
theorem dX5_about_64 : decode cX5_about 64 = .ok (.iload_n 1, 1) := by decide +kernel
theorem dX5_about_65 : decode cX5_about 65 = .ok (.iconst 0, 1) := by decide +kernel
theorem dX5_about_66 : decode cX5_about 66 = .ok (.invokevirtual 103, 3) := by decide +kernel
theorem dX5_about_69 : decode cX5_about 69 = .ok (.ireturn, 1) := by decide +kernel
theorem dX5_about_70 : decode cX5_about 70 = .ok (.aload_n 0, 1) := by decide +kernel
theorem dX5_about_71 : decode cX5_about 71 = .ok (.getfield 12, 3) := by decide +kernel
theorem dX5_about_74 : decode cX5_about 74 = .ok (.iload_n 1, 1) := by decide +kernel
theorem dX5_about_75 : decode cX5_about 75 = .ok (.iconst 1, 1) := by decide +kernel
theorem dX5_about_76 : decode cX5_about 76 = .ok (.invokevirtual 103, 3) := by decide +kernel
theorem dX5_about_79 : decode cX5_about 79 = .ok (.ireturn, 1) := by decide +kernel
theorem dX5_about_80 : decode cX5_about 80 = .ok (.aload_n 0, 1) := by decide +kernel
theorem dX5_about_81 : decode cX5_about 81 = .ok (.getfield 12, 3) := by decide +kernel
theorem dX5_about_84 : decode cX5_about 84 = .ok (.iload_n 1, 1) := by decide +kernel
theorem dX5_about_85 : decode cX5_about 85 = .ok (.iconst 2, 1) := by decide +kernel
theorem dX5_about_86 : decode cX5_about 86 = .ok (.invokevirtual 103, 3) := by decide +kernel
theorem dX5_about_89 : decode cX5_about 89 = .ok (.ireturn, 1) := by decide +kernel
theorem dX5_about_90 : decode cX5_about 90 = .ok (.aload_n 0, 1) := by decide +kernel
theorem dX5_about_91 : decode cX5_about 91 = .ok (.getfield 12, 3) := by decide +kernel
theorem dX5_about_94 : decode cX5_about 94 = .ok (.iload_n 1, 1) := by decide +kernel
theorem dX5_about_95 : decode cX5_about 95 = .ok (.iconst 3, 1) := by decide +kernel
theorem dX5_about_96 : decode cX5_about 96 = .ok (.invokevirtual 103, 3) := by decide +kernel
theorem dX5_about_99 : decode cX5_about 99 = .ok (.ireturn, 1) := by decide +kernel
theorem dX5_about_100 : decode cX5_about 100 = .ok (.aload_n 0, 1) := by decide +kernel
theorem dX5_about_101 : decode cX5_about 101 = .ok (.getfield 21, 3) := by decide +kernel
theorem dX5_about_104 : decode cX5_about 104 = .ok (.iload_n 1, 1) := by decide +kernel
theorem dX5_about_105 : decode cX5_about 105 = .ok (.invokevirtual 107, 3) := by decide +kernel
theorem dX5_about_108 : decode cX5_about 108 = .ok (.ireturn, 1) := by decide +kernel
theorem dX5_about_109 : decode cX5_about 109 = .ok (.aload_n 0, 1) := by decide +kernel
theorem dX5_about_110 : decode cX5_about 110 = .ok (.getfield 21, 3) := by decide +kernel
theorem dX5_about_113 : decode cX5_about 113 = .ok (.iload_n 1, 1) := by decide +kernel
theorem dX5_about_114 : decode cX5_about 114 = .ok (.invokevirtual 110, 3) := by decide +kernel
theorem dX5_about_117 : decode cX5_about 117 = .ok (.ireturn, 1) := by decide +kernel
theorem dX5_about_118 : decode cX5_about 118 = .ok (.aload_n 0, 1) := by decide +kernel
theorem dX5_about_119 : decode cX5_about 119 = .ok (.getfield 21, 3) := by decide +kernel
theorem dX5_about_122 : decode cX5_about 122 = .ok (.iload_n 1, 1) := by decide +kernel
theorem dX5_about_123 : decode cX5_about 123 = .ok (.invokevirtual 113, 3) := by decide +kernel
theorem dX5_about_126 : decode cX5_about 126 = .ok (.ireturn, 1) := by decide +kernel
theorem dX5_about_127 : decode cX5_about 127 = .ok (.aload_n 0, 1) := by decide +kernel
theorem dX5_about_128 : decode cX5_about 128 = .ok (.getfield 21, 3) := by decide +kernel
theorem dX5_about_131 : decode cX5_about 131 = .ok (.iload_n 1, 1) := by decide +kernel
theorem dX5_about_132 : decode cX5_about 132 = .ok (.invokevirtual 116, 3) := by decide +kernel
theorem dX5_about_135 : decode cX5_about 135 = .ok (.ireturn, 1) := by decide +kernel
theorem dX5_about_136 : decode cX5_about 136 = .ok (.bipush (-102), 2) := by decide +kernel
theorem dX5_about_138 : decode cX5_about 138 = .ok (.ireturn, 1) := by decide +kernel
set_option maxRecDepth 20000 in
theorem ggX5_as_X0_has : GoodIn wsX5_as wsX0_has := goodIn_r _ [6, 7, 33, 34] (by decide +kernel) (by decide +kernel)
set_option maxRecDepth 20000 in
theorem gX5_as_X0_has : GoodIn wsX5_as (wsV RX5 100 RX0 yX0_has wsX0_has) := goodIn_app (goodIn_of _ (by decide +kernel)) ggX5_as_X0_has
set_option maxRecDepth 20000 in
theorem ggX5_as_X5_isBetween : GoodIn wsX5_as wsX5_isBetween := goodIn_r _ [11] (by decide +kernel) (by decide +kernel)
set_option maxRecDepth 20000 in
theorem gX5_as_X5_isBetween : GoodIn wsX5_as (va_wsS RX5 92 yX5_isBetween wsX5_isBetween) := goodIn_app (goodIn_of _ (by decide +kernel)) ggX5_as_X5_isBetween
set_option maxRecDepth 20000 in
theorem ggX5_as_X0_isOf : GoodIn wsX5_as wsX0_isOf := goodIn_r _ [15, 16, 17, 18, 19, 5, 20, 21, 33, 34] (by decide +kernel) (by decide +kernel)
set_option maxRecDepth 20000 in
theorem gX5_as_X0_isOf : GoodIn wsX5_as (wsV RX5 119 RX0 yX0_isOf wsX0_isOf) := goodIn_app (goodIn_of _ (by decide +kernel)) ggX5_as_X0_isOf
theorem dX5_as_0 : decode cX5_as 0 = .ok (.aload_n 0, 1) := by decide +kernel
theorem dX5_as_1 : decode cX5_as 1 = .ok (.getfield 12, 3) := by decide +kernel
theorem dX5_as_4 : decode cX5_as 4 = .ok (.iload_n 1, 1) := by decide +kernel
theorem dX5_as_5 : decode cX5_as 5 = .ok (.invokevirtual 100, 3) := by decide +kernel
theorem dX5_as_8 : decode cX5_as 8 = .ok (.ifCond .ne 6, 3) := by decide +kernel
theorem dX5_as_11 : decode cX5_as 11 = .ok (.bipush (-101), 2) := by decide +kernel
theorem dX5_as_13 : decode cX5_as 13 = .ok (.ireturn, 1) := by decide +kernel
theorem dX5_as_14 : decode cX5_as 14 = .ok (.iload_n 2, 1) := by decide +kernel
theorem dX5_as_15 : decode cX5_as 15 = .ok (.iconst 0, 1) := by decide +kernel
theorem dX5_as_16 : decode cX5_as 16 = .ok (.iconst 4, 1) := by decide +kernel
theorem dX5_as_17 : decode cX5_as 17 = .ok (.invokestatic 92, 3) := by decide +kernel
theorem dX5_as_20 : decode cX5_as 20 = .ok (.ifCond .ne 6, 3) := by decide +kernel
theorem dX5_as_23 : decode cX5_as 23 = .ok (.bipush (-102), 2) := by decide +kernel
theorem dX5_as_25 : decode cX5_as 25 = .ok (.ireturn, 1) := by decide +kernel
theorem dX5_as_26 : decode cX5_as 26 = .ok (.aload_n 0, 1) := by decide +kernel
theorem dX5_as_27 : decode cX5_as 27 = .ok (.getfield 12, 3) := by decide +kernel
theorem dX5_as_30 : decode cX5_as 30 = .ok (.iload_n 1, 1) := by decide +kernel
theorem dX5_as_31 : decode cX5_as 31 = .ok (.iload_n 2, 1) := by decide +kernel
theorem dX5_as_32 : decode cX5_as 32 = .ok (.invokevirtual 119, 3) := by decide +kernel
theorem dX5_as_35 : decode cX5_as 35 = .ok (.ifCond .eq 7, 3) := by decide +kernel
theorem dX5_as_38 : decode cX5_as 38 = .ok (.iload_n 1, 1) := by decide +kernel
theorem dX5_as_39 : decode cX5_as 39 = .ok (.goto 4, 3) := by decide +kernel
theorem dX5_as_42 : decode cX5_as 42 = .ok (.iconst (-1), 1) := by decide +kernel
theorem dX5_as_43 : decode cX5_as 43 = .ok (.ireturn, 1) := by decide +kernel
set_option maxRecDepth 20000 in
theorem ggX5_may_X0_knows : GoodIn wsX5_may wsX0_knows := goodIn_r _ [7, 8, 9, 10, 11, 12, 13, 14, 15, 6, 16, 17, 18, 19, 20, 75, 76] (by decide +kernel) (by decide +kernel)
set_option maxRecDepth 20000 in
theorem gX5_may_X0_knows : GoodIn wsX5_may (wsV RX5 123 RX0 yX0_knows wsX0_knows) := goodIn_app (goodIn_of _ (by decide +kernel)) ggX5_may_X0_knows
set_option maxRecDepth 20000 in
theorem ggX5_may_X1_allows : GoodIn wsX5_may wsX1_allows := goodIn_r _ [25, 26, 27, 4, 5, 6, 7, 8, 9, 10, 11, 12, 13, 14, 15, 16, 17, 18, 19, 20, 28, 29, 30, 24, 31, 32, 33, 34, 35, 36, 37, 38, 39, 40, 41, 42, 43, 44, 45, 46, 47, 48, 49, 50, 51, 52, 53, 54, 55, 56, 57, 58, 59, 60, 61, 62, 63, 77, 78, 75, 76] (by decide +kernel) (by decide +kernel)
set_option maxRecDepth 20000 in
theorem gX5_may_X1_allows : GoodIn wsX5_may (wsV RX5 85 RX1 yX1_allows wsX1_allows) := goodIn_app (goodIn_of _ (by decide +kernel)) ggX5_may_X1_allows
theorem dX5_may_0 : decode cX5_may 0 = .ok (.aload_n 0, 1) := by decide +kernel
theorem dX5_may_1 : decode cX5_may 1 = .ok (.getfield 12, 3) := by decide +kernel
theorem dX5_may_4 : decode cX5_may 4 = .ok (.iload_n 1, 1) := by decide +kernel
theorem dX5_may_5 : decode cX5_may 5 = .ok (.invokevirtual 123, 3) := by decide +kernel
theorem dX5_may_8 : decode cX5_may 8 = .ok (.ifCond .ne 6, 3) := by decide +kernel
theorem dX5_may_11 : decode cX5_may 11 = .ok (.bipush (-101), 2) := by decide +kernel
theorem dX5_may_13 : decode cX5_may 13 = .ok (.ireturn, 1) := by decide +kernel
theorem dX5_may_14 : decode cX5_may 14 = .ok (.aload_n 0, 1) := by decide +kernel
theorem dX5_may_15 : decode cX5_may 15 = .ok (.getfield 21, 3) := by decide +kernel
theorem dX5_may_18 : decode cX5_may 18 = .ok (.iload_n 1, 1) := by decide +kernel
theorem dX5_may_19 : decode cX5_may 19 = .ok (.invokevirtual 85, 3) := by decide +kernel
theorem dX5_may_22 : decode cX5_may 22 = .ok (.ifCond .eq 7, 3) := by decide +kernel
theorem dX5_may_25 : decode cX5_may 25 = .ok (.iconst 1, 1) := by decide +kernel
theorem dX5_may_26 : decode cX5_may 26 = .ok (.goto 4, 3) := by decide +kernel
theorem dX5_may_29 : decode cX5_may 29 = .ok (.iconst 0, 1) := by decide +kernel
theorem dX5_may_30 : decode cX5_may 30 = .ok (.ireturn, 1) := by decide +kernel
set_option maxRecDepth 20000 in
theorem ggX5_deed_X0_knows : GoodIn wsX5_deed wsX0_knows := goodIn_r _ [8, 9, 10, 11, 12, 13, 14, 15, 16, 7, 17, 18, 19, 20, 21, 84, 85] (by decide +kernel) (by decide +kernel)
set_option maxRecDepth 20000 in
theorem gX5_deed_X0_knows : GoodIn wsX5_deed (wsV RX5 123 RX0 yX0_knows wsX0_knows) := goodIn_app (goodIn_of _ (by decide +kernel)) ggX5_deed_X0_knows
set_option maxRecDepth 20000 in
theorem ggX5_deed_X1_allows : GoodIn wsX5_deed wsX1_allows := goodIn_r _ [26, 27, 28, 5, 6, 7, 8, 9, 10, 11, 12, 13, 14, 15, 16, 17, 18, 19, 20, 21, 29, 30, 31, 25, 32, 33, 34, 35, 36, 37, 38, 39, 40, 41, 42, 43, 44, 45, 46, 47, 48, 49, 50, 51, 52, 53, 54, 55, 56, 57, 58, 59, 60, 61, 62, 63, 64, 86, 87, 84, 85] (by decide +kernel) (by decide +kernel)
set_option maxRecDepth 20000 in
theorem gX5_deed_X1_allows : GoodIn wsX5_deed (wsV RX5 85 RX1 yX1_allows wsX1_allows) := goodIn_app (goodIn_of _ (by decide +kernel)) ggX5_deed_X1_allows
set_option maxRecDepth 20000 in
theorem ggX5_deed_X1_carryOut : GoodIn wsX5_deed wsX1_carryOut := goodIn_r _ [68, 37, 12, 10, 13, 19, 20, 21, 69, 70, 71, 25, 72, 57, 58, 59, 60, 27, 38, 39, 40, 7, 41, 42, 43, 44, 45, 46, 47, 53, 54, 55, 56, 18, 33, 34, 35, 36, 86, 87, 84, 85] (by decide +kernel) (by decide +kernel)
set_option maxRecDepth 20000 in
theorem gX5_deed_X1_carryOut : GoodIn wsX5_deed (wsV RX5 88 RX1 yX1_carryOut wsX1_carryOut) := goodIn_app (goodIn_of _ (by decide +kernel)) ggX5_deed_X1_carryOut
theorem dX5_deed_0 : decode cX5_deed 0 = .ok (.aload_n 0, 1) := by decide +kernel
theorem dX5_deed_1 : decode cX5_deed 1 = .ok (.getfield 12, 3) := by decide +kernel
theorem dX5_deed_4 : decode cX5_deed 4 = .ok (.iload_n 1, 1) := by decide +kernel
theorem dX5_deed_5 : decode cX5_deed 5 = .ok (.invokevirtual 123, 3) := by decide +kernel
theorem dX5_deed_8 : decode cX5_deed 8 = .ok (.ifCond .ne 6, 3) := by decide +kernel
theorem dX5_deed_11 : decode cX5_deed 11 = .ok (.bipush (-101), 2) := by decide +kernel
theorem dX5_deed_13 : decode cX5_deed 13 = .ok (.ireturn, 1) := by decide +kernel
theorem dX5_deed_14 : decode cX5_deed 14 = .ok (.aload_n 0, 1) := by decide +kernel
theorem dX5_deed_15 : decode cX5_deed 15 = .ok (.getfield 21, 3) := by decide +kernel
theorem dX5_deed_18 : decode cX5_deed 18 = .ok (.iload_n 1, 1) := by decide +kernel
theorem dX5_deed_19 : decode cX5_deed 19 = .ok (.invokevirtual 85, 3) := by decide +kernel
theorem dX5_deed_22 : decode cX5_deed 22 = .ok (.ifCond .ne 6, 3) := by decide +kernel
theorem dX5_deed_25 : decode cX5_deed 25 = .ok (.bipush (-103), 2) := by decide +kernel
theorem dX5_deed_27 : decode cX5_deed 27 = .ok (.ireturn, 1) := by decide +kernel
theorem dX5_deed_28 : decode cX5_deed 28 = .ok (.aload_n 0, 1) := by decide +kernel
theorem dX5_deed_29 : decode cX5_deed 29 = .ok (.getfield 21, 3) := by decide +kernel
theorem dX5_deed_32 : decode cX5_deed 32 = .ok (.iload_n 1, 1) := by decide +kernel
theorem dX5_deed_33 : decode cX5_deed 33 = .ok (.invokevirtual 88, 3) := by decide +kernel
theorem dX5_deed_36 : decode cX5_deed 36 = .ok (.aload_n 0, 1) := by decide +kernel
theorem dX5_deed_37 : decode cX5_deed 37 = .ok (.dup, 1) := by decide +kernel
theorem dX5_deed_38 : decode cX5_deed 38 = .ok (.getfield 126, 3) := by decide +kernel
theorem dX5_deed_41 : decode cX5_deed 41 = .ok (.iconst 1, 1) := by decide +kernel
theorem dX5_deed_42 : decode cX5_deed 42 = .ok (.iadd, 1) := by decide +kernel
theorem dX5_deed_43 : decode cX5_deed 43 = .ok (.putfield 126, 3) := by decide +kernel
theorem dX5_deed_46 : decode cX5_deed 46 = .ok (.aload_n 0, 1) := by decide +kernel
theorem dX5_deed_47 : decode cX5_deed 47 = .ok (.getfield 126, 3) := by decide +kernel
theorem dX5_deed_50 : decode cX5_deed 50 = .ok (.ireturn, 1) := by decide +kernel
set_option maxRecDepth 20000 in
theorem ggX5_number_X1_toNumber : GoodIn wsX5_number wsX1_toNumber := goodIn_r _ [6, 7, 19, 20] (by decide +kernel) (by decide +kernel)
set_option maxRecDepth 20000 in
theorem gX5_number_X1_toNumber : GoodIn wsX5_number (wsV RX5 129 RX1 yX1_toNumber wsX1_toNumber) := goodIn_app (goodIn_of _ (by decide +kernel)) ggX5_number_X1_toNumber
theorem dX5_number_0 : decode cX5_number 0 = .ok (.aload_n 0, 1) := by decide +kernel
theorem dX5_number_1 : decode cX5_number 1 = .ok (.getfield 21, 3) := by decide +kernel
theorem dX5_number_4 : decode cX5_number 4 = .ok (.invokevirtual 129, 3) := by decide +kernel
theorem dX5_number_7 : decode cX5_number 7 = .ok (.ireturn, 1) := by decide +kernel
set_option maxRecDepth 20000 in
theorem ggX5_soonest_X0_hasAll : GoodIn wsX5_soonest wsX0_hasAll := goodIn_r _ [8, 9, 10, 11, 7, 12, 13, 152, 153] (by decide +kernel) (by decide +kernel)
set_option maxRecDepth 20000 in
theorem gX5_soonest_X0_hasAll : GoodIn wsX5_soonest (wsV RX5 132 RX0 yX0_hasAll wsX0_hasAll) := goodIn_app (goodIn_of _ (by decide +kernel)) ggX5_soonest_X0_hasAll
set_option maxRecDepth 20000 in
theorem ggX5_soonest_X5_isBetween : GoodIn wsX5_soonest wsX5_isBetween := goodIn_r _ [17] (by decide +kernel) (by decide +kernel)
set_option maxRecDepth 20000 in
theorem gX5_soonest_X5_isBetween : GoodIn wsX5_soonest (va_wsS RX5 92 yX5_isBetween wsX5_isBetween) := goodIn_app (goodIn_of _ (by decide +kernel)) ggX5_soonest_X5_isBetween
set_option maxRecDepth 20000 in
theorem ggX5_soonest_X2_lookFrom : GoodIn wsX5_soonest wsX2_lookFrom := goodIn_r _ [22, 23, 24, 25, 26, 27, 28, 29, 30, 31, 32, 33, 34, 35, 36, 37, 7, 38, 13, 39, 40, 41, 21, 42, 43, 44, 45, 46, 47, 48, 49, 50, 51, 52, 53, 54, 55, 56, 57, 58, 59, 60, 61, 62, 63, 64, 65, 66, 67, 68, 69, 70, 71, 72, 73, 74, 75, 76, 16, 77, 78, 79, 80, 81, 82, 83, 84, 85, 86, 87, 88, 89, 90, 91, 92, 93, 94, 95, 96, 97, 98, 99, 100, 101, 102, 103, 104, 105, 106, 107, 108, 109, 110, 111, 112, 113, 114, 115, 116, 117, 118, 119, 120, 121, 122, 123, 124, 125, 126, 127, 128, 129, 130, 154, 155, 156, 157, 158, 159, 160, 161, 162, 163, 164, 165, 166, 152, 153] (by decide +kernel) (by decide +kernel)
set_option maxRecDepth 20000 in
theorem gX5_soonest_X2_lookFrom : GoodIn wsX5_soonest (wsV RX5 135 RX2 yX2_lookFrom wsX2_lookFrom) := goodIn_app (goodIn_of _ (by decide +kernel)) ggX5_soonest_X2_lookFrom
set_option maxRecDepth 20000 in
theorem ggX5_soonest_X2_placeWhereOut : GoodIn wsX5_soonest wsX2_placeWhereOut := goodIn_r _ [134, 27, 28, 49, 55, 56, 57, 32, 58, 34, 135, 136, 137, 138, 154, 155, 156, 157, 158, 159, 160, 161, 162, 163, 164, 165, 166] (by decide +kernel) (by decide +kernel)
set_option maxRecDepth 20000 in
theorem gX5_soonest_X2_placeWhereOut : GoodIn wsX5_soonest (wsV RX5 138 RX2 yX2_placeWhereOut wsX2_placeWhereOut) := goodIn_app (goodIn_of _ (by decide +kernel)) ggX5_soonest_X2_placeWhereOut
set_option maxRecDepth 20000 in
theorem ggX5_soonest_X2_stepsAt : GoodIn wsX5_soonest wsX2_stepsAt := goodIn_r _ [62, 43, 154, 155, 156, 157, 158, 159, 160, 161, 162, 163, 164] (by decide +kernel) (by decide +kernel)
set_option maxRecDepth 20000 in
theorem gX5_soonest_X2_stepsAt : GoodIn wsX5_soonest (wsV RX5 141 RX2 yX2_stepsAt wsX2_stepsAt) := goodIn_app (goodIn_of _ (by decide +kernel)) ggX5_soonest_X2_stepsAt
set_option maxRecDepth 20000 in
theorem ggX5_soonest_X2_firstAt : GoodIn wsX5_soonest wsX2_firstAt := goodIn_r _ [66, 44, 154, 155, 156, 157, 158, 159, 160, 161, 162, 163, 164] (by decide +kernel) (by decide +kernel)
set_option maxRecDepth 20000 in
theorem gX5_soonest_X2_firstAt : GoodIn wsX5_soonest (wsV RX5 144 RX2 yX2_firstAt wsX2_firstAt) := goodIn_app (goodIn_of _ (by decide +kernel)) ggX5_soonest_X2_firstAt
theorem dX5_soonest_0 : decode cX5_soonest 0 = .ok (.aload_n 0, 1) := by decide +kernel
theorem dX5_soonest_1 : decode cX5_soonest 1 = .ok (.getfield 12, 3) := by decide +kernel
theorem dX5_soonest_4 : decode cX5_soonest 4 = .ok (.iload_n 1, 1) := by decide +kernel
theorem dX5_soonest_5 : decode cX5_soonest 5 = .ok (.invokevirtual 132, 3) := by decide +kernel
theorem dX5_soonest_8 : decode cX5_soonest 8 = .ok (.ifCond .eq 12, 3) := by decide +kernel
theorem dX5_soonest_11 : decode cX5_soonest 11 = .ok (.iload_n 2, 1) := by decide +kernel
theorem dX5_soonest_12 : decode cX5_soonest 12 = .ok (.iconst 0, 1) := by decide +kernel
theorem dX5_soonest_13 : decode cX5_soonest 13 = .ok (.iconst 1, 1) := by decide +kernel
theorem dX5_soonest_14 : decode cX5_soonest 14 = .ok (.invokestatic 92, 3) := by decide +kernel
theorem dX5_soonest_17 : decode cX5_soonest 17 = .ok (.ifCond .ne 6, 3) := by decide +kernel
theorem dX5_soonest_20 : decode cX5_soonest 20 = .ok (.bipush (-102), 2) := by decide +kernel
theorem dX5_soonest_22 : decode cX5_soonest 22 = .ok (.ireturn, 1) := by decide +kernel
theorem dX5_soonest_23 : decode cX5_soonest 23 = .ok (.aload_n 0, 1) := by decide +kernel
theorem dX5_soonest_24 : decode cX5_soonest 24 = .ok (.getfield 31, 3) := by decide +kernel
theorem dX5_soonest_27 : decode cX5_soonest 27 = .ok (.aload_n 0, 1) := by decide +kernel
theorem dX5_soonest_28 : decode cX5_soonest 28 = .ok (.getfield 21, 3) := by decide +kernel
theorem dX5_soonest_31 : decode cX5_soonest 31 = .ok (.invokevirtual 135, 3) := by decide +kernel
theorem dX5_soonest_34 : decode cX5_soonest 34 = .ok (.aload_n 0, 1) := by decide +kernel
theorem dX5_soonest_35 : decode cX5_soonest 35 = .ok (.getfield 31, 3) := by decide +kernel
theorem dX5_soonest_38 : decode cX5_soonest 38 = .ok (.iload_n 1, 1) := by decide +kernel
theorem dX5_soonest_39 : decode cX5_soonest 39 = .ok (.invokevirtual 138, 3) := by decide +kernel
theorem dX5_soonest_42 : decode cX5_soonest 42 = .ok (.istore_n 3, 1) := by decide +kernel
theorem dX5_soonest_43 : decode cX5_soonest 43 = .ok (.iload_n 2, 1) := by decide +kernel
theorem dX5_soonest_44 : decode cX5_soonest 44 = .ok (.ifCond .ne 14, 3) := by decide +kernel
theorem dX5_soonest_47 : decode cX5_soonest 47 = .ok (.aload_n 0, 1) := by decide +kernel
theorem dX5_soonest_48 : decode cX5_soonest 48 = .ok (.getfield 31, 3) := by decide +kernel
theorem dX5_soonest_51 : decode cX5_soonest 51 = .ok (.iload_n 3, 1) := by decide +kernel
theorem dX5_soonest_52 : decode cX5_soonest 52 = .ok (.invokevirtual 141, 3) := by decide +kernel
theorem dX5_soonest_55 : decode cX5_soonest 55 = .ok (.goto 11, 3) := by decide +kernel
theorem dX5_soonest_58 : decode cX5_soonest 58 = .ok (.aload_n 0, 1) := by decide +kernel
theorem dX5_soonest_59 : decode cX5_soonest 59 = .ok (.getfield 31, 3) := by decide +kernel
theorem dX5_soonest_62 : decode cX5_soonest 62 = .ok (.iload_n 3, 1) := by decide +kernel
theorem dX5_soonest_63 : decode cX5_soonest 63 = .ok (.invokevirtual 144, 3) := by decide +kernel
theorem dX5_soonest_66 : decode cX5_soonest 66 = .ok (.ireturn, 1) := by decide +kernel
set_option maxRecDepth 20000 in
theorem ggX5_together_X0_has : GoodIn wsX5_together wsX0_has := goodIn_r _ [8, 9, 138, 139] (by decide +kernel) (by decide +kernel)
set_option maxRecDepth 20000 in
theorem gX5_together_X0_has : GoodIn wsX5_together (wsV RX5 100 RX0 yX0_has wsX0_has) := goodIn_app (goodIn_of _ (by decide +kernel)) ggX5_together_X0_has
set_option maxRecDepth 20000 in
theorem ggX5_together_X2_lookFrom : GoodIn wsX5_together wsX2_lookFrom := goodIn_r _ [14, 15, 16, 17, 18, 19, 20, 21, 22, 23, 24, 25, 26, 27, 28, 29, 7, 30, 9, 31, 32, 33, 13, 34, 35, 36, 37, 38, 39, 40, 41, 42, 43, 44, 45, 46, 47, 48, 49, 50, 51, 52, 53, 54, 55, 56, 57, 58, 59, 60, 61, 62, 63, 64, 65, 66, 67, 68, 69, 70, 71, 72, 73, 5, 6, 8, 74, 75, 76, 77, 78, 79, 80, 81, 82, 83, 84, 85, 86, 87, 88, 89, 90, 91, 92, 93, 94, 95, 96, 97, 98, 99, 100, 101, 102, 103, 104, 105, 106, 107, 108, 109, 110, 111, 112, 113, 114, 115, 116, 117, 118, 119, 120, 140, 141, 142, 143, 144, 145, 146, 147, 148, 149, 150, 151, 152, 138, 139] (by decide +kernel) (by decide +kernel)
set_option maxRecDepth 20000 in
theorem gX5_together_X2_lookFrom : GoodIn wsX5_together (wsV RX5 135 RX2 yX2_lookFrom wsX2_lookFrom) := goodIn_app (goodIn_of _ (by decide +kernel)) ggX5_together_X2_lookFrom
set_option maxRecDepth 20000 in
theorem ggX5_together_X2_placeWhereTogether : GoodIn wsX5_together wsX2_placeWhereTogether := goodIn_r _ [124, 19, 20, 41, 47, 48, 49, 24, 50, 26, 125, 82, 83, 84, 140, 141, 142, 143, 144, 145, 146, 147, 148, 149, 150, 151, 152] (by decide +kernel) (by decide +kernel)
set_option maxRecDepth 20000 in
theorem gX5_together_X2_placeWhereTogether : GoodIn wsX5_together (wsV RX5 147 RX2 yX2_placeWhereTogether wsX2_placeWhereTogether) := goodIn_app (goodIn_of _ (by decide +kernel)) ggX5_together_X2_placeWhereTogether
set_option maxRecDepth 20000 in
theorem ggX5_together_X2_stepsAt : GoodIn wsX5_together wsX2_stepsAt := goodIn_r _ [54, 35, 140, 141, 142, 143, 144, 145, 146, 147, 148, 149, 150] (by decide +kernel) (by decide +kernel)
set_option maxRecDepth 20000 in
theorem gX5_together_X2_stepsAt : GoodIn wsX5_together (wsV RX5 141 RX2 yX2_stepsAt wsX2_stepsAt) := goodIn_app (goodIn_of _ (by decide +kernel)) ggX5_together_X2_stepsAt
theorem dX5_together_0 : decode cX5_together 0 = .ok (.aload_n 0, 1) := by decide +kernel
theorem dX5_together_1 : decode cX5_together 1 = .ok (.getfield 12, 3) := by decide +kernel
theorem dX5_together_4 : decode cX5_together 4 = .ok (.iload_n 1, 1) := by decide +kernel
theorem dX5_together_5 : decode cX5_together 5 = .ok (.invokevirtual 100, 3) := by decide +kernel
theorem dX5_together_8 : decode cX5_together 8 = .ok (.ifCond .eq 19, 3) := by decide +kernel
theorem dX5_together_11 : decode cX5_together 11 = .ok (.aload_n 0, 1) := by decide +kernel
theorem dX5_together_12 : decode cX5_together 12 = .ok (.getfield 12, 3) := by decide +kernel
theorem dX5_together_15 : decode cX5_together 15 = .ok (.iload_n 2, 1) := by decide +kernel
theorem dX5_together_16 : decode cX5_together 16 = .ok (.invokevirtual 100, 3) := by decide +kernel
theorem dX5_together_19 : decode cX5_together 19 = .ok (.ifCond .eq 8, 3) := by decide +kernel
theorem dX5_together_22 : decode cX5_together 22 = .ok (.iload_n 1, 1) := by decide +kernel
theorem dX5_together_23 : decode cX5_together 23 = .ok (.iload_n 2, 1) := by decide +kernel
theorem dX5_together_24 : decode cX5_together 24 = .ok (.if_icmp .ne 6, 3) := by decide +kernel
theorem dX5_together_27 : decode cX5_together 27 = .ok (.bipush (-101), 2) := by decide +kernel
theorem dX5_together_29 : decode cX5_together 29 = .ok (.ireturn, 1) := by decide +kernel
theorem dX5_together_30 : decode cX5_together 30 = .ok (.aload_n 0, 1) := by decide +kernel
theorem dX5_together_31 : decode cX5_together 31 = .ok (.getfield 31, 3) := by decide +kernel
theorem dX5_together_34 : decode cX5_together 34 = .ok (.aload_n 0, 1) := by decide +kernel
theorem dX5_together_35 : decode cX5_together 35 = .ok (.getfield 21, 3) := by decide +kernel
theorem dX5_together_38 : decode cX5_together 38 = .ok (.invokevirtual 135, 3) := by decide +kernel
theorem dX5_together_41 : decode cX5_together 41 = .ok (.aload_n 0, 1) := by decide +kernel
theorem dX5_together_42 : decode cX5_together 42 = .ok (.getfield 31, 3) := by decide +kernel
theorem dX5_together_45 : decode cX5_together 45 = .ok (.aload_n 0, 1) := by decide +kernel
theorem dX5_together_46 : decode cX5_together 46 = .ok (.getfield 31, 3) := by decide +kernel
theorem dX5_together_49 : decode cX5_together 49 = .ok (.iload_n 1, 1) := by decide +kernel
theorem dX5_together_50 : decode cX5_together 50 = .ok (.iload_n 2, 1) := by decide +kernel
theorem dX5_together_51 : decode cX5_together 51 = .ok (.invokevirtual 147, 3) := by decide +kernel
theorem dX5_together_54 : decode cX5_together 54 = .ok (.invokevirtual 141, 3) := by decide +kernel
theorem dX5_together_57 : decode cX5_together 57 = .ok (.ireturn, 1) := by decide +kernel
set_option maxRecDepth 20000 in
theorem ggX5_deep_X0_has : GoodIn wsX5_deep wsX0_has := goodIn_r _ [8, 9, 144, 145] (by decide +kernel) (by decide +kernel)
set_option maxRecDepth 20000 in
theorem gX5_deep_X0_has : GoodIn wsX5_deep (wsV RX5 100 RX0 yX0_has wsX0_has) := goodIn_app (goodIn_of _ (by decide +kernel)) ggX5_deep_X0_has
set_option maxRecDepth 20000 in
theorem ggX5_deep_X2_lookFrom : GoodIn wsX5_deep wsX2_lookFrom := goodIn_r _ [14, 15, 16, 17, 18, 19, 20, 21, 22, 23, 24, 25, 26, 27, 28, 29, 7, 30, 9, 31, 32, 33, 13, 34, 35, 36, 37, 38, 39, 40, 41, 42, 43, 44, 45, 46, 47, 48, 49, 50, 51, 52, 53, 54, 55, 56, 57, 58, 59, 60, 61, 62, 63, 64, 65, 66, 67, 68, 69, 70, 71, 72, 73, 5, 6, 8, 74, 75, 76, 77, 78, 79, 80, 81, 82, 83, 84, 85, 86, 87, 88, 89, 90, 91, 92, 93, 94, 95, 96, 97, 98, 99, 100, 101, 102, 103, 104, 105, 106, 107, 108, 109, 110, 111, 112, 113, 114, 115, 116, 117, 118, 119, 120, 146, 147, 148, 149, 150, 151, 152, 153, 154, 155, 156, 157, 158, 144, 145] (by decide +kernel) (by decide +kernel)
set_option maxRecDepth 20000 in
theorem gX5_deep_X2_lookFrom : GoodIn wsX5_deep (wsV RX5 135 RX2 yX2_lookFrom wsX2_lookFrom) := goodIn_app (goodIn_of _ (by decide +kernel)) ggX5_deep_X2_lookFrom
set_option maxRecDepth 20000 in
theorem ggX5_deep_X2_mostWalls : GoodIn wsX5_deep wsX2_mostWalls := goodIn_r _ [124, 19, 20, 41, 125, 126, 127, 128, 47, 48, 49, 24, 50, 26, 129, 130, 131, 132, 81, 82, 83, 84, 146, 147, 148, 149, 150, 151, 152, 153, 154, 155, 156, 157, 158] (by decide +kernel) (by decide +kernel)
set_option maxRecDepth 20000 in
theorem gX5_deep_X2_mostWalls : GoodIn wsX5_deep (wsV RX5 150 RX2 yX2_mostWalls wsX2_mostWalls) := goodIn_app (goodIn_of _ (by decide +kernel)) ggX5_deep_X2_mostWalls
theorem dX5_deep_0 : decode cX5_deep 0 = .ok (.aload_n 0, 1) := by decide +kernel
theorem dX5_deep_1 : decode cX5_deep 1 = .ok (.getfield 12, 3) := by decide +kernel
theorem dX5_deep_4 : decode cX5_deep 4 = .ok (.iload_n 1, 1) := by decide +kernel
theorem dX5_deep_5 : decode cX5_deep 5 = .ok (.invokevirtual 100, 3) := by decide +kernel
theorem dX5_deep_8 : decode cX5_deep 8 = .ok (.ifCond .ne 6, 3) := by decide +kernel
theorem dX5_deep_11 : decode cX5_deep 11 = .ok (.bipush (-101), 2) := by decide +kernel
theorem dX5_deep_13 : decode cX5_deep 13 = .ok (.ireturn, 1) := by decide +kernel
theorem dX5_deep_14 : decode cX5_deep 14 = .ok (.aload_n 0, 1) := by decide +kernel
theorem dX5_deep_15 : decode cX5_deep 15 = .ok (.getfield 31, 3) := by decide +kernel
theorem dX5_deep_18 : decode cX5_deep 18 = .ok (.aload_n 0, 1) := by decide +kernel
theorem dX5_deep_19 : decode cX5_deep 19 = .ok (.getfield 21, 3) := by decide +kernel
theorem dX5_deep_22 : decode cX5_deep 22 = .ok (.invokevirtual 135, 3) := by decide +kernel
theorem dX5_deep_25 : decode cX5_deep 25 = .ok (.aload_n 0, 1) := by decide +kernel
theorem dX5_deep_26 : decode cX5_deep 26 = .ok (.getfield 31, 3) := by decide +kernel
theorem dX5_deep_29 : decode cX5_deep 29 = .ok (.iload_n 1, 1) := by decide +kernel
theorem dX5_deep_30 : decode cX5_deep 30 = .ok (.invokevirtual 150, 3) := by decide +kernel
theorem dX5_deep_33 : decode cX5_deep 33 = .ok (.ireturn, 1) := by decide +kernel
set_option maxRecDepth 20000 in
theorem ggX5_many_X2_lookFrom : GoodIn wsX5_many wsX2_lookFrom := goodIn_r _ [7, 8, 9, 10, 11, 12, 13, 14, 15, 16, 17, 18, 19, 20, 21, 22, 23, 24, 25, 26, 27, 28, 6, 29, 30, 31, 32, 33, 34, 35, 36, 37, 38, 39, 40, 41, 42, 43, 44, 45, 46, 47, 48, 49, 50, 51, 52, 53, 54, 55, 56, 57, 58, 59, 60, 61, 62, 63, 64, 65, 66, 67, 68, 69, 70, 71, 72, 73, 74, 75, 76, 77, 78, 79, 80, 81, 82, 83, 84, 85, 86, 87, 88, 89, 90, 91, 92, 93, 94, 95, 96, 97, 98, 99, 100, 101, 102, 103, 104, 105, 106, 107, 108, 109, 110, 111, 112, 113, 114, 115, 116, 117, 118, 134, 135, 136, 137, 138, 139, 140, 141, 142, 143, 144, 145, 146, 147, 148] (by decide +kernel) (by decide +kernel)
set_option maxRecDepth 20000 in
theorem gX5_many_X2_lookFrom : GoodIn wsX5_many (wsV RX5 135 RX2 yX2_lookFrom wsX2_lookFrom) := goodIn_app (goodIn_of _ (by decide +kernel)) ggX5_many_X2_lookFrom
set_option maxRecDepth 20000 in
theorem ggX5_many_X2_total : GoodIn wsX5_many wsX2_total := goodIn_r _ [122, 12, 134, 135, 136, 137, 138, 139, 140, 141, 142, 143, 144] (by decide +kernel) (by decide +kernel)
set_option maxRecDepth 20000 in
theorem gX5_many_X2_total : GoodIn wsX5_many (wsV RX5 153 RX2 yX2_total wsX2_total) := goodIn_app (goodIn_of _ (by decide +kernel)) ggX5_many_X2_total
theorem dX5_many_0 : decode cX5_many 0 = .ok (.aload_n 0, 1) := by decide +kernel
theorem dX5_many_1 : decode cX5_many 1 = .ok (.getfield 31, 3) := by decide +kernel
theorem dX5_many_4 : decode cX5_many 4 = .ok (.aload_n 0, 1) := by decide +kernel
theorem dX5_many_5 : decode cX5_many 5 = .ok (.getfield 21, 3) := by decide +kernel
theorem dX5_many_8 : decode cX5_many 8 = .ok (.invokevirtual 135, 3) := by decide +kernel
theorem dX5_many_11 : decode cX5_many 11 = .ok (.aload_n 0, 1) := by decide +kernel
theorem dX5_many_12 : decode cX5_many 12 = .ok (.getfield 31, 3) := by decide +kernel
theorem dX5_many_15 : decode cX5_many 15 = .ok (.invokevirtual 153, 3) := by decide +kernel
theorem dX5_many_18 : decode cX5_many 18 = .ok (.ireturn, 1) := by decide +kernel
set_option maxRecDepth 20000 in
theorem ggX5_nesting_X2_lookFrom : GoodIn wsX5_nesting wsX2_lookFrom := goodIn_r _ [7, 8, 9, 10, 11, 12, 13, 14, 15, 16, 17, 18, 19, 20, 21, 22, 23, 24, 25, 26, 27, 28, 6, 29, 30, 31, 32, 33, 34, 35, 36, 37, 38, 39, 40, 41, 42, 43, 44, 45, 46, 47, 48, 49, 50, 51, 52, 53, 54, 55, 56, 57, 58, 59, 60, 61, 62, 63, 64, 65, 66, 67, 68, 69, 70, 71, 72, 73, 74, 75, 76, 77, 78, 79, 80, 81, 82, 83, 84, 85, 86, 87, 88, 89, 90, 91, 92, 93, 94, 95, 96, 97, 98, 99, 100, 101, 102, 103, 104, 105, 106, 107, 108, 109, 110, 111, 112, 113, 114, 115, 116, 117, 118, 134, 135, 136, 137, 138, 139, 140, 141, 142, 143, 144, 145, 146, 147, 148] (by decide +kernel) (by decide +kernel)
set_option maxRecDepth 20000 in
theorem gX5_nesting_X2_lookFrom : GoodIn wsX5_nesting (wsV RX5 135 RX2 yX2_lookFrom wsX2_lookFrom) := goodIn_app (goodIn_of _ (by decide +kernel)) ggX5_nesting_X2_lookFrom
set_option maxRecDepth 20000 in
theorem ggX5_nesting_X2_numberAt : GoodIn wsX5_nesting wsX2_numberAt := goodIn_r _ [122, 11, 134, 135, 136, 137, 138, 139, 140, 141, 142, 143, 144] (by decide +kernel) (by decide +kernel)
set_option maxRecDepth 20000 in
theorem gX5_nesting_X2_numberAt : GoodIn wsX5_nesting (wsV RX5 156 RX2 yX2_numberAt wsX2_numberAt) := goodIn_app (goodIn_of _ (by decide +kernel)) ggX5_nesting_X2_numberAt
theorem dX5_nesting_0 : decode cX5_nesting 0 = .ok (.aload_n 0, 1) := by decide +kernel
theorem dX5_nesting_1 : decode cX5_nesting 1 = .ok (.getfield 31, 3) := by decide +kernel
theorem dX5_nesting_4 : decode cX5_nesting 4 = .ok (.aload_n 0, 1) := by decide +kernel
theorem dX5_nesting_5 : decode cX5_nesting 5 = .ok (.getfield 21, 3) := by decide +kernel
theorem dX5_nesting_8 : decode cX5_nesting 8 = .ok (.invokevirtual 135, 3) := by decide +kernel
theorem dX5_nesting_11 : decode cX5_nesting 11 = .ok (.aload_n 0, 1) := by decide +kernel
theorem dX5_nesting_12 : decode cX5_nesting 12 = .ok (.getfield 31, 3) := by decide +kernel
theorem dX5_nesting_15 : decode cX5_nesting 15 = .ok (.iload_n 1, 1) := by decide +kernel
theorem dX5_nesting_16 : decode cX5_nesting 16 = .ok (.invokevirtual 156, 3) := by decide +kernel
theorem dX5_nesting_19 : decode cX5_nesting 19 = .ok (.istore_n 2, 1) := by decide +kernel
theorem dX5_nesting_20 : decode cX5_nesting 20 = .ok (.iload_n 2, 1) := by decide +kernel
theorem dX5_nesting_21 : decode cX5_nesting 21 = .ok (.iconst (-1), 1) := by decide +kernel
theorem dX5_nesting_22 : decode cX5_nesting 22 = .ok (.if_icmp .ne 8, 3) := by decide +kernel
theorem dX5_nesting_25 : decode cX5_nesting 25 = .ok (.bipush (-102), 2) := by decide +kernel
theorem dX5_nesting_27 : decode cX5_nesting 27 = .ok (.goto 4, 3) := by decide +kernel
theorem dX5_nesting_30 : decode cX5_nesting 30 = .ok (.iload_n 2, 1) := by decide +kernel
theorem dX5_nesting_31 : decode cX5_nesting 31 = .ok (.ireturn, 1) := by decide +kernel
set_option maxRecDepth 20000 in
theorem ggX5_told_X0_has : GoodIn wsX5_told wsX0_has := goodIn_r _ [7, 8, 40, 41] (by decide +kernel) (by decide +kernel)
set_option maxRecDepth 20000 in
theorem gX5_told_X0_has : GoodIn wsX5_told (wsV RX5 100 RX0 yX0_has wsX0_has) := goodIn_app (goodIn_of _ (by decide +kernel)) ggX5_told_X0_has
set_option maxRecDepth 20000 in
theorem ggX5_told_X0_hasAll : GoodIn wsX5_told wsX0_hasAll := goodIn_r _ [12, 13, 14, 15, 6, 16, 8, 40, 41] (by decide +kernel) (by decide +kernel)
set_option maxRecDepth 20000 in
theorem gX5_told_X0_hasAll : GoodIn wsX5_told (wsV RX5 132 RX0 yX0_hasAll wsX0_hasAll) := goodIn_app (goodIn_of _ (by decide +kernel)) ggX5_told_X0_hasAll
set_option maxRecDepth 20000 in
theorem ggX5_told_X4_keep : GoodIn wsX5_told wsX4_keep := goodIn_r _ [21, 22, 23, 24, 42, 43, 44] (by decide +kernel) (by decide +kernel)
set_option maxRecDepth 20000 in
theorem gX5_told_X4_keep : GoodIn wsX5_told (wsV RX5 159 RX4 yX4_keep wsX4_keep) := goodIn_app (goodIn_of _ (by decide +kernel)) ggX5_told_X4_keep
set_option maxRecDepth 20000 in
theorem ggX5_told_X4_length : GoodIn wsX5_told wsX4_length := goodIn_r _ [28, 22, 42, 43, 44] (by decide +kernel) (by decide +kernel)
set_option maxRecDepth 20000 in
theorem gX5_told_X4_length : GoodIn wsX5_told (wsV RX5 162 RX4 yX4_length wsX4_length) := goodIn_app (goodIn_of _ (by decide +kernel)) ggX5_told_X4_length
theorem dX5_told_0 : decode cX5_told 0 = .ok (.aload_n 0, 1) := by decide +kernel
theorem dX5_told_1 : decode cX5_told 1 = .ok (.getfield 12, 3) := by decide +kernel
theorem dX5_told_4 : decode cX5_told 4 = .ok (.iload_n 1, 1) := by decide +kernel
theorem dX5_told_5 : decode cX5_told 5 = .ok (.invokevirtual 100, 3) := by decide +kernel
theorem dX5_told_8 : decode cX5_told 8 = .ok (.ifCond .ne 6, 3) := by decide +kernel
theorem dX5_told_11 : decode cX5_told 11 = .ok (.bipush (-101), 2) := by decide +kernel
theorem dX5_told_13 : decode cX5_told 13 = .ok (.ireturn, 1) := by decide +kernel
theorem dX5_told_14 : decode cX5_told 14 = .ok (.aload_n 0, 1) := by decide +kernel
theorem dX5_told_15 : decode cX5_told 15 = .ok (.getfield 12, 3) := by decide +kernel
theorem dX5_told_18 : decode cX5_told 18 = .ok (.iload_n 2, 1) := by decide +kernel
theorem dX5_told_19 : decode cX5_told 19 = .ok (.invokevirtual 132, 3) := by decide +kernel
theorem dX5_told_22 : decode cX5_told 22 = .ok (.ifCond .ne 6, 3) := by decide +kernel
theorem dX5_told_25 : decode cX5_told 25 = .ok (.bipush (-102), 2) := by decide +kernel
theorem dX5_told_27 : decode cX5_told 27 = .ok (.ireturn, 1) := by decide +kernel
theorem dX5_told_28 : decode cX5_told 28 = .ok (.aload_n 0, 1) := by decide +kernel
theorem dX5_told_29 : decode cX5_told 29 = .ok (.getfield 45, 3) := by decide +kernel
theorem dX5_told_32 : decode cX5_told 32 = .ok (.iload_n 1, 1) := by decide +kernel
theorem dX5_told_33 : decode cX5_told 33 = .ok (.iload_n 2, 1) := by decide +kernel
theorem dX5_told_34 : decode cX5_told 34 = .ok (.invokevirtual 159, 3) := by decide +kernel
theorem dX5_told_37 : decode cX5_told 37 = .ok (.ifCond .eq 13, 3) := by decide +kernel
theorem dX5_told_40 : decode cX5_told 40 = .ok (.aload_n 0, 1) := by decide +kernel
theorem dX5_told_41 : decode cX5_told 41 = .ok (.getfield 45, 3) := by decide +kernel
theorem dX5_told_44 : decode cX5_told 44 = .ok (.invokevirtual 162, 3) := by decide +kernel
theorem dX5_told_47 : decode cX5_told 47 = .ok (.goto 5, 3) := by decide +kernel
theorem dX5_told_50 : decode cX5_told 50 = .ok (.bipush (-104), 2) := by decide +kernel
theorem dX5_told_52 : decode cX5_told 52 = .ok (.ireturn, 1) := by decide +kernel
set_option maxRecDepth 20000 in
theorem ggX5_forget_X4_clear : GoodIn wsX5_forget wsX4_clear := goodIn_r _ [6, 7, 19, 20, 21] (by decide +kernel) (by decide +kernel)
set_option maxRecDepth 20000 in
theorem gX5_forget_X4_clear : GoodIn wsX5_forget (wsV RX5 163 RX4 yX4_clear wsX4_clear) := goodIn_app (goodIn_of _ (by decide +kernel)) ggX5_forget_X4_clear
theorem dX5_forget_0 : decode cX5_forget 0 = .ok (.aload_n 0, 1) := by decide +kernel
theorem dX5_forget_1 : decode cX5_forget 1 = .ok (.getfield 45, 3) := by decide +kernel
theorem dX5_forget_4 : decode cX5_forget 4 = .ok (.invokevirtual 163, 3) := by decide +kernel
theorem dX5_forget_7 : decode cX5_forget 7 = .ok (.ireturn, 1) := by decide +kernel
set_option maxRecDepth 20000 in
theorem ggX5_fits_X2_lookFrom : GoodIn wsX5_fits wsX2_lookFrom := goodIn_r _ [8, 9, 10, 11, 12, 13, 14, 15, 16, 17, 18, 19, 20, 21, 22, 23, 24, 25, 26, 27, 28, 29, 7, 30, 31, 32, 33, 34, 35, 36, 37, 38, 39, 40, 41, 42, 43, 44, 45, 46, 47, 48, 49, 50, 51, 52, 53, 54, 55, 56, 57, 58, 59, 60, 61, 62, 63, 64, 65, 66, 67, 68, 69, 70, 71, 72, 73, 74, 75, 76, 77, 78, 79, 80, 81, 82, 83, 84, 85, 86, 87, 88, 89, 90, 91, 92, 93, 94, 95, 96, 97, 98, 99, 100, 101, 102, 103, 104, 105, 106, 107, 108, 109, 110, 111, 112, 113, 114, 115, 116, 117, 118, 119, 151, 152, 153, 154, 155, 156, 157, 158, 159, 160, 161, 162, 163, 164, 165] (by decide +kernel) (by decide +kernel)
set_option maxRecDepth 20000 in
theorem gX5_fits_X2_lookFrom : GoodIn wsX5_fits (wsV RX5 135 RX2 yX2_lookFrom wsX2_lookFrom) := goodIn_app (goodIn_of _ (by decide +kernel)) ggX5_fits_X2_lookFrom
set_option maxRecDepth 20000 in
theorem ggX5_fits_X2_fitting : GoodIn wsX5_fits wsX2_fitting := goodIn_r _ [123, 13, 14, 37, 43, 44, 45, 18, 46, 20, 124, 125, 126, 127, 128, 129, 130, 131, 132, 133, 134, 135, 59, 99, 22, 23, 24, 25, 26, 136, 137, 138, 139, 80, 81, 82, 83, 151, 152, 153, 154, 155, 156, 157, 158, 159, 160, 161, 162, 163, 166, 167, 168, 164, 165] (by decide +kernel) (by decide +kernel)
set_option maxRecDepth 20000 in
theorem gX5_fits_X2_fitting : GoodIn wsX5_fits (wsV RX5 164 RX2 yX2_fitting wsX2_fitting) := goodIn_app (goodIn_of _ (by decide +kernel)) ggX5_fits_X2_fitting
theorem dX5_fits_0 : decode cX5_fits 0 = .ok (.aload_n 0, 1) := by decide +kernel
theorem dX5_fits_1 : decode cX5_fits 1 = .ok (.getfield 31, 3) := by decide +kernel
theorem dX5_fits_4 : decode cX5_fits 4 = .ok (.aload_n 0, 1) := by decide +kernel
theorem dX5_fits_5 : decode cX5_fits 5 = .ok (.getfield 21, 3) := by decide +kernel
theorem dX5_fits_8 : decode cX5_fits 8 = .ok (.invokevirtual 135, 3) := by decide +kernel
theorem dX5_fits_11 : decode cX5_fits 11 = .ok (.aload_n 0, 1) := by decide +kernel
theorem dX5_fits_12 : decode cX5_fits 12 = .ok (.getfield 31, 3) := by decide +kernel
theorem dX5_fits_15 : decode cX5_fits 15 = .ok (.aload_n 0, 1) := by decide +kernel
theorem dX5_fits_16 : decode cX5_fits 16 = .ok (.getfield 45, 3) := by decide +kernel
theorem dX5_fits_19 : decode cX5_fits 19 = .ok (.invokevirtual 164, 3) := by decide +kernel
theorem dX5_fits_22 : decode cX5_fits 22 = .ok (.ireturn, 1) := by decide +kernel
set_option maxRecDepth 20000 in
theorem ggX5_sure_X0_has : GoodIn wsX5_sure wsX0_has := goodIn_r _ [9, 10, 154, 155] (by decide +kernel) (by decide +kernel)
set_option maxRecDepth 20000 in
theorem gX5_sure_X0_has : GoodIn wsX5_sure (wsV RX5 100 RX0 yX0_has wsX0_has) := goodIn_app (goodIn_of _ (by decide +kernel)) ggX5_sure_X0_has
set_option maxRecDepth 20000 in
theorem ggX5_sure_X2_lookFrom : GoodIn wsX5_sure wsX2_lookFrom := goodIn_r _ [15, 16, 17, 18, 19, 20, 21, 22, 23, 24, 25, 26, 27, 28, 29, 30, 8, 31, 10, 32, 33, 34, 14, 35, 36, 37, 38, 39, 40, 41, 42, 43, 44, 45, 46, 47, 48, 49, 50, 51, 52, 53, 54, 55, 56, 57, 58, 59, 60, 61, 62, 63, 64, 65, 66, 67, 68, 69, 70, 71, 72, 73, 74, 6, 7, 9, 75, 76, 77, 78, 79, 80, 81, 82, 83, 84, 85, 86, 87, 88, 89, 90, 91, 92, 93, 94, 95, 96, 97, 98, 99, 100, 101, 102, 103, 104, 105, 106, 107, 108, 109, 110, 111, 112, 113, 114, 115, 116, 117, 118, 119, 120, 121, 156, 157, 158, 159, 160, 161, 162, 163, 164, 165, 166, 167, 168, 154, 155] (by decide +kernel) (by decide +kernel)
set_option maxRecDepth 20000 in
theorem gX5_sure_X2_lookFrom : GoodIn wsX5_sure (wsV RX5 135 RX2 yX2_lookFrom wsX2_lookFrom) := goodIn_app (goodIn_of _ (by decide +kernel)) ggX5_sure_X2_lookFrom
set_option maxRecDepth 20000 in
theorem ggX5_sure_X2_sureHolder : GoodIn wsX5_sure wsX2_sureHolder := goodIn_r _ [125, 20, 21, 42, 48, 49, 50, 25, 51, 27, 126, 127, 128, 129, 130, 131, 132, 133, 134, 135, 136, 137, 64, 101, 29, 30, 8, 31, 10, 138, 139, 140, 141, 82, 83, 84, 85, 142, 156, 157, 158, 159, 160, 161, 162, 163, 164, 165, 166, 167, 168, 169, 170, 171, 154, 155] (by decide +kernel) (by decide +kernel)
set_option maxRecDepth 20000 in
theorem gX5_sure_X2_sureHolder : GoodIn wsX5_sure (wsV RX5 168 RX2 yX2_sureHolder wsX2_sureHolder) := goodIn_app (goodIn_of _ (by decide +kernel)) ggX5_sure_X2_sureHolder
theorem dX5_sure_0 : decode cX5_sure 0 = .ok (.aload_n 0, 1) := by decide +kernel
theorem dX5_sure_1 : decode cX5_sure 1 = .ok (.getfield 12, 3) := by decide +kernel
theorem dX5_sure_4 : decode cX5_sure 4 = .ok (.iload_n 1, 1) := by decide +kernel
theorem dX5_sure_5 : decode cX5_sure 5 = .ok (.invokevirtual 100, 3) := by decide +kernel
theorem dX5_sure_8 : decode cX5_sure 8 = .ok (.ifCond .ne 6, 3) := by decide +kernel
theorem dX5_sure_11 : decode cX5_sure 11 = .ok (.bipush (-101), 2) := by decide +kernel
theorem dX5_sure_13 : decode cX5_sure 13 = .ok (.ireturn, 1) := by decide +kernel
theorem dX5_sure_14 : decode cX5_sure 14 = .ok (.aload_n 0, 1) := by decide +kernel
theorem dX5_sure_15 : decode cX5_sure 15 = .ok (.getfield 31, 3) := by decide +kernel
theorem dX5_sure_18 : decode cX5_sure 18 = .ok (.aload_n 0, 1) := by decide +kernel
theorem dX5_sure_19 : decode cX5_sure 19 = .ok (.getfield 21, 3) := by decide +kernel
theorem dX5_sure_22 : decode cX5_sure 22 = .ok (.invokevirtual 135, 3) := by decide +kernel
theorem dX5_sure_25 : decode cX5_sure 25 = .ok (.aload_n 0, 1) := by decide +kernel
theorem dX5_sure_26 : decode cX5_sure 26 = .ok (.getfield 31, 3) := by decide +kernel
theorem dX5_sure_29 : decode cX5_sure 29 = .ok (.iload_n 1, 1) := by decide +kernel
theorem dX5_sure_30 : decode cX5_sure 30 = .ok (.aload_n 0, 1) := by decide +kernel
theorem dX5_sure_31 : decode cX5_sure 31 = .ok (.getfield 45, 3) := by decide +kernel
theorem dX5_sure_34 : decode cX5_sure 34 = .ok (.invokevirtual 168, 3) := by decide +kernel
theorem dX5_sure_37 : decode cX5_sure 37 = .ok (.ireturn, 1) := by decide +kernel
set_option maxRecDepth 20000 in
theorem ggX5_ask_X2_lookFrom : GoodIn wsX5_ask wsX2_lookFrom := goodIn_r _ [8, 9, 10, 11, 12, 13, 14, 15, 16, 17, 18, 19, 20, 21, 22, 23, 24, 25, 26, 27, 28, 29, 7, 30, 31, 32, 33, 34, 35, 36, 37, 38, 39, 40, 41, 42, 43, 44, 45, 46, 47, 48, 49, 50, 51, 52, 53, 54, 55, 56, 57, 58, 59, 60, 61, 62, 63, 64, 65, 66, 67, 68, 69, 70, 71, 72, 73, 74, 75, 76, 77, 78, 79, 80, 81, 82, 83, 84, 85, 86, 87, 88, 89, 90, 91, 92, 93, 94, 95, 96, 97, 98, 99, 100, 101, 102, 103, 104, 105, 106, 107, 108, 109, 110, 111, 112, 113, 114, 115, 116, 117, 118, 119, 165, 166, 167, 168, 169, 170, 171, 172, 173, 174, 175, 176, 177, 178, 179] (by decide +kernel) (by decide +kernel)
set_option maxRecDepth 20000 in
theorem gX5_ask_X2_lookFrom : GoodIn wsX5_ask (wsV RX5 135 RX2 yX2_lookFrom wsX2_lookFrom) := goodIn_app (goodIn_of _ (by decide +kernel)) ggX5_ask_X2_lookFrom
set_option maxRecDepth 20000 in
theorem ggX5_ask_X2_bestAsked : GoodIn wsX5_ask wsX2_bestAsked := goodIn_r _ [123, 10, 21, 22, 23, 24, 25, 26, 124, 125, 126, 7, 127, 128, 13, 14, 37, 129, 130, 131, 132, 133, 134, 135, 136, 43, 44, 45, 18, 46, 20, 137, 138, 139, 140, 59, 99, 141, 142, 143, 144, 80, 81, 82, 83, 145, 146, 147, 148, 149, 150, 151, 152, 153, 165, 166, 167, 168, 169, 170, 171, 172, 173, 174, 175, 178, 179, 176, 177, 180, 181, 182] (by decide +kernel) (by decide +kernel)
set_option maxRecDepth 20000 in
theorem gX5_ask_X2_bestAsked : GoodIn wsX5_ask (wsV RX5 172 RX2 yX2_bestAsked wsX2_bestAsked) := goodIn_app (goodIn_of _ (by decide +kernel)) ggX5_ask_X2_bestAsked
theorem dX5_ask_0 : decode cX5_ask 0 = .ok (.aload_n 0, 1) := by decide +kernel
theorem dX5_ask_1 : decode cX5_ask 1 = .ok (.getfield 31, 3) := by decide +kernel
theorem dX5_ask_4 : decode cX5_ask 4 = .ok (.aload_n 0, 1) := by decide +kernel
theorem dX5_ask_5 : decode cX5_ask 5 = .ok (.getfield 21, 3) := by decide +kernel
theorem dX5_ask_8 : decode cX5_ask 8 = .ok (.invokevirtual 135, 3) := by decide +kernel
theorem dX5_ask_11 : decode cX5_ask 11 = .ok (.aload_n 0, 1) := by decide +kernel
theorem dX5_ask_12 : decode cX5_ask 12 = .ok (.getfield 31, 3) := by decide +kernel
theorem dX5_ask_15 : decode cX5_ask 15 = .ok (.aload_n 0, 1) := by decide +kernel
theorem dX5_ask_16 : decode cX5_ask 16 = .ok (.getfield 45, 3) := by decide +kernel
theorem dX5_ask_19 : decode cX5_ask 19 = .ok (.invokevirtual 172, 3) := by decide +kernel
theorem dX5_ask_22 : decode cX5_ask 22 = .ok (.ireturn, 1) := by decide +kernel
set_option maxRecDepth 20000 in
theorem ggX5_days_X5_isBetween : GoodIn wsX5_days wsX5_isBetween := goodIn_r _ [7] (by decide +kernel) (by decide +kernel)
set_option maxRecDepth 20000 in
theorem gX5_days_X5_isBetween : GoodIn wsX5_days (va_wsS RX5 92 yX5_isBetween wsX5_isBetween) := goodIn_app (goodIn_of _ (by decide +kernel)) ggX5_days_X5_isBetween
set_option maxRecDepth 20000 in
theorem ggX5_days_X1_copy : GoodIn wsX5_days wsX1_copy := goodIn_r _ [12, 13, 14, 15, 16, 11, 17, 108, 109] (by decide +kernel) (by decide +kernel)
set_option maxRecDepth 20000 in
theorem gX5_days_X1_copy : GoodIn wsX5_days (wsV RX5 74 RX1 yX1_copy wsX1_copy) := goodIn_app (goodIn_of _ (by decide +kernel)) ggX5_days_X1_copy
set_option maxRecDepth 20000 in
theorem ggX5_days_X1_choices : GoodIn wsX5_days wsX1_choices := goodIn_r _ [21, 22, 23, 24, 11, 25, 26, 27, 28, 29, 30, 31, 32, 6, 33, 34, 35, 36, 37, 38, 39, 40, 41, 42, 43, 44, 45, 46, 47, 14, 15, 16, 17, 13, 48, 49, 50, 51, 52, 53, 54, 55, 56, 57, 58, 59, 60, 61, 62, 63, 64, 65, 66, 67, 68, 69, 70, 71, 72, 73, 74, 108, 109, 110, 111] (by decide +kernel) (by decide +kernel)
set_option maxRecDepth 20000 in
theorem gX5_days_X1_choices : GoodIn wsX5_days (wsV RX5 175 RX1 yX1_choices wsX1_choices) := goodIn_app (goodIn_of _ (by decide +kernel)) ggX5_days_X1_choices
set_option maxRecDepth 20000 in
theorem ggX5_days_X5_nextSeed : GoodIn wsX5_days wsX5_nextSeed := goodIn_r _ [77, 78, 79, 80] (by decide +kernel) (by decide +kernel)
set_option maxRecDepth 20000 in
theorem gX5_days_X5_nextSeed : GoodIn wsX5_days (va_wsS RX5 178 yX5_nextSeed wsX5_nextSeed) := goodIn_app (goodIn_of _ (by decide +kernel)) ggX5_days_X5_nextSeed
set_option maxRecDepth 20000 in
theorem ggX5_days_X1_choiceAt : GoodIn wsX5_days wsX1_choiceAt := goodIn_r _ [84, 22, 23, 24, 11, 25, 26, 27, 28, 29, 30, 31, 32, 6, 33, 34, 35, 36, 37, 38, 39, 40, 41, 42, 43, 44, 45, 46, 47, 14, 15, 16, 17, 13, 48, 49, 50, 51, 52, 53, 54, 55, 56, 57, 58, 59, 60, 61, 62, 63, 64, 65, 66, 67, 68, 69, 70, 71, 72, 73, 74, 108, 109, 110, 111] (by decide +kernel) (by decide +kernel)
set_option maxRecDepth 20000 in
theorem gX5_days_X1_choiceAt : GoodIn wsX5_days (wsV RX5 182 RX1 yX1_choiceAt wsX1_choiceAt) := goodIn_app (goodIn_of _ (by decide +kernel)) ggX5_days_X1_choiceAt
set_option maxRecDepth 20000 in
theorem ggX5_days_X1_carryOut : GoodIn wsX5_days wsX1_carryOut := goodIn_r _ [88, 13, 34, 6, 35, 41, 42, 43, 89, 90, 91, 11, 92, 67, 68, 69, 70, 26, 48, 49, 50, 30, 51, 52, 53, 54, 55, 56, 57, 63, 64, 65, 66, 40, 14, 15, 16, 17, 108, 109, 110, 111] (by decide +kernel) (by decide +kernel)
set_option maxRecDepth 20000 in
theorem gX5_days_X1_carryOut : GoodIn wsX5_days (wsV RX5 88 RX1 yX1_carryOut wsX1_carryOut) := goodIn_app (goodIn_of _ (by decide +kernel)) ggX5_days_X1_carryOut
set_option maxRecDepth 20000 in
theorem ggX5_days_X1_toNumber : GoodIn wsX5_days wsX1_toNumber := goodIn_r _ [96, 13, 108, 109] (by decide +kernel) (by decide +kernel)
set_option maxRecDepth 20000 in
theorem gX5_days_X1_toNumber : GoodIn wsX5_days (wsV RX5 129 RX1 yX1_toNumber wsX1_toNumber) := goodIn_app (goodIn_of _ (by decide +kernel)) ggX5_days_X1_toNumber
theorem dX5_days_0 : decode cX5_days 0 = .ok (.iload_n 1, 1) := by decide +kernel
theorem dX5_days_1 : decode cX5_days 1 = .ok (.iconst 1, 1) := by decide +kernel
theorem dX5_days_2 : decode cX5_days 2 = .ok (.bipush 60, 2) := by decide +kernel
theorem dX5_days_4 : decode cX5_days 4 = .ok (.invokestatic 92, 3) := by decide +kernel
theorem dX5_days_7 : decode cX5_days 7 = .ok (.ifCond .eq 16, 3) := by decide +kernel
theorem dX5_days_10 : decode cX5_days 10 = .ok (.iload_n 2, 1) := by decide +kernel
theorem dX5_days_11 : decode cX5_days 11 = .ok (.ifCond .lt 12, 3) := by decide +kernel
theorem dX5_days_14 : decode cX5_days 14 = .ok (.iload_n 3, 1) := by decide +kernel
theorem dX5_days_15 : decode cX5_days 15 = .ok (.iconst 0, 1) := by decide +kernel
theorem dX5_days_16 : decode cX5_days 16 = .ok (.iconst 2, 1) := by decide +kernel
theorem dX5_days_17 : decode cX5_days 17 = .ok (.invokestatic 92, 3) := by decide +kernel
theorem dX5_days_20 : decode cX5_days 20 = .ok (.ifCond .ne 6, 3) := by decide +kernel
theorem dX5_days_23 : decode cX5_days 23 = .ok (.bipush (-102), 2) := by decide +kernel
theorem dX5_days_25 : decode cX5_days 25 = .ok (.ireturn, 1) := by decide +kernel
theorem dX5_days_26 : decode cX5_days 26 = .ok (.aload_n 0, 1) := by decide +kernel
theorem dX5_days_27 : decode cX5_days 27 = .ok (.getfield 25, 3) := by decide +kernel
theorem dX5_days_30 : decode cX5_days 30 = .ok (.aload_n 0, 1) := by decide +kernel
theorem dX5_days_31 : decode cX5_days 31 = .ok (.getfield 21, 3) := by decide +kernel
theorem dX5_days_34 : decode cX5_days 34 = .ok (.invokevirtual 74, 3) := by decide +kernel
theorem dX5_days_37 : decode cX5_days 37 = .ok (.iload_n 2, 1) := by decide +kernel
theorem dX5_days_38 : decode cX5_days 38 = .ok (.istore 4, 2) := by decide +kernel
theorem dX5_days_40 : decode cX5_days 40 = .ok (.iconst 0, 1) := by decide +kernel
theorem dX5_days_41 : decode cX5_days 41 = .ok (.istore 5, 2) := by decide +kernel
theorem dX5_days_43 : decode cX5_days 43 = .ok (.aload_n 0, 1) := by decide +kernel
theorem dX5_days_44 : decode cX5_days 44 = .ok (.getfield 25, 3) := by decide +kernel
theorem dX5_days_47 : decode cX5_days 47 = .ok (.invokevirtual 175, 3) := by decide +kernel
theorem dX5_days_50 : decode cX5_days 50 = .ok (.istore 6, 2) := by decide +kernel
theorem dX5_days_52 : decode cX5_days 52 = .ok (.iload 5, 2) := by decide +kernel
theorem dX5_days_54 : decode cX5_days 54 = .ok (.iload_n 1, 1) := by decide +kernel
theorem dX5_days_55 : decode cX5_days 55 = .ok (.if_icmp .ge 52, 3) := by decide +kernel
theorem dX5_days_58 : decode cX5_days 58 = .ok (.iload 6, 2) := by decide +kernel
theorem dX5_days_60 : decode cX5_days 60 = .ok (.ifCond .le 47, 3) := by decide +kernel
theorem dX5_days_63 : decode cX5_days 63 = .ok (.iload 4, 2) := by decide +kernel
theorem dX5_days_65 : decode cX5_days 65 = .ok (.invokestatic 178, 3) := by decide +kernel
theorem dX5_days_68 : decode cX5_days 68 = .ok (.istore 4, 2) := by decide +kernel
theorem dX5_days_70 : decode cX5_days 70 = .ok (.aload_n 0, 1) := by decide +kernel
theorem dX5_days_71 : decode cX5_days 71 = .ok (.getfield 25, 3) := by decide +kernel
theorem dX5_days_74 : decode cX5_days 74 = .ok (.aload_n 0, 1) := by decide +kernel
theorem dX5_days_75 : decode cX5_days 75 = .ok (.getfield 25, 3) := by decide +kernel
theorem dX5_days_78 : decode cX5_days 78 = .ok (.iload 4, 2) := by decide +kernel
theorem dX5_days_80 : decode cX5_days 80 = .ok (.ldc 181, 2) := by decide +kernel
theorem dX5_days_82 : decode cX5_days 82 = .ok (.idiv, 1) := by decide +kernel
theorem dX5_days_83 : decode cX5_days 83 = .ok (.iload 6, 2) := by decide +kernel
theorem dX5_days_85 : decode cX5_days 85 = .ok (.irem, 1) := by decide +kernel
theorem dX5_days_86 : decode cX5_days 86 = .ok (.invokevirtual 182, 3) := by decide +kernel
theorem dX5_days_89 : decode cX5_days 89 = .ok (.invokevirtual 88, 3) := by decide +kernel
theorem dX5_days_92 : decode cX5_days 92 = .ok (.iinc 5 1, 3) := by decide +kernel
theorem dX5_days_95 : decode cX5_days 95 = .ok (.aload_n 0, 1) := by decide +kernel
theorem dX5_days_96 : decode cX5_days 96 = .ok (.getfield 25, 3) := by decide +kernel
theorem dX5_days_99 : decode cX5_days 99 = .ok (.invokevirtual 175, 3) := by decide +kernel
theorem dX5_days_102 : decode cX5_days 102 = .ok (.istore 6, 2) := by decide +kernel
theorem dX5_days_104 : decode cX5_days 104 = .ok (.goto (-52), 3) := by decide +kernel
theorem dX5_days_107 : decode cX5_days 107 = .ok (.iload_n 3, 1) := by decide +kernel
theorem dX5_days_108 : decode cX5_days 108 = .ok (.ifCond .ne 13, 3) := by decide +kernel
theorem dX5_days_111 : decode cX5_days 111 = .ok (.aload_n 0, 1) := by decide +kernel
theorem dX5_days_112 : decode cX5_days 112 = .ok (.getfield 25, 3) := by decide +kernel
theorem dX5_days_115 : decode cX5_days 115 = .ok (.invokevirtual 129, 3) := by decide +kernel
theorem dX5_days_118 : decode cX5_days 118 = .ok (.goto 15, 3) := by decide +kernel
theorem dX5_days_121 : decode cX5_days 121 = .ok (.iload_n 3, 1) := by decide +kernel
theorem dX5_days_122 : decode cX5_days 122 = .ok (.iconst 1, 1) := by decide +kernel
theorem dX5_days_123 : decode cX5_days 123 = .ok (.if_icmp .ne 8, 3) := by decide +kernel
theorem dX5_days_126 : decode cX5_days 126 = .ok (.iload 5, 2) := by decide +kernel
theorem dX5_days_128 : decode cX5_days 128 = .ok (.goto 5, 3) := by decide +kernel
theorem dX5_days_131 : decode cX5_days 131 = .ok (.iload 4, 2) := by decide +kernel
theorem dX5_days_133 : decode cX5_days 133 = .ok (.ireturn, 1) := by decide +kernel
set_option maxRecDepth 20000 in
theorem ggX5_image_X1_toNumber : GoodIn wsX5_image wsX1_toNumber := goodIn_r _ [13, 14, 40, 41] (by decide +kernel) (by decide +kernel)
set_option maxRecDepth 20000 in
theorem gX5_image_X1_toNumber : GoodIn wsX5_image (wsV RX5 129 RX1 yX1_toNumber wsX1_toNumber) := goodIn_app (goodIn_of _ (by decide +kernel)) ggX5_image_X1_toNumber
set_option maxRecDepth 20000 in
theorem ggX5_image_X4_copy : GoodIn wsX5_image wsX4_copy := goodIn_r _ [19, 20, 21, 22, 42, 43, 44] (by decide +kernel) (by decide +kernel)
set_option maxRecDepth 20000 in
theorem gX5_image_X4_copy : GoodIn wsX5_image (wsV RX5 188 RX4 yX4_copy wsX4_copy) := goodIn_app (goodIn_of _ (by decide +kernel)) ggX5_image_X4_copy
set_option maxRecDepth 20000 in
theorem ggX5_image_X0_total : GoodIn wsX5_image wsX0_total := goodIn_r _ [27, 28, 45, 46] (by decide +kernel) (by decide +kernel)
set_option maxRecDepth 20000 in
theorem gX5_image_X0_total : GoodIn wsX5_image (wsV RX5 194 RX0 yX0_total wsX0_total) := goodIn_app (goodIn_of _ (by decide +kernel)) ggX5_image_X0_total
theorem dX5_image_0 : decode cX5_image 0 = .ok (.aload_n 0, 1) := by decide +kernel
theorem dX5_image_1 : decode cX5_image 1 = .ok (.aload_n 0, 1) := by decide +kernel
theorem dX5_image_2 : decode cX5_image 2 = .ok (.getfield 21, 3) := by decide +kernel
theorem dX5_image_5 : decode cX5_image 5 = .ok (.invokevirtual 129, 3) := by decide +kernel
theorem dX5_image_8 : decode cX5_image 8 = .ok (.putfield 185, 3) := by decide +kernel
theorem dX5_image_11 : decode cX5_image 11 = .ok (.aload_n 0, 1) := by decide +kernel
theorem dX5_image_12 : decode cX5_image 12 = .ok (.getfield 49, 3) := by decide +kernel
theorem dX5_image_15 : decode cX5_image 15 = .ok (.aload_n 0, 1) := by decide +kernel
theorem dX5_image_16 : decode cX5_image 16 = .ok (.getfield 45, 3) := by decide +kernel
theorem dX5_image_19 : decode cX5_image 19 = .ok (.invokevirtual 188, 3) := by decide +kernel
theorem dX5_image_22 : decode cX5_image 22 = .ok (.aload_n 0, 1) := by decide +kernel
theorem dX5_image_23 : decode cX5_image 23 = .ok (.aload_n 0, 1) := by decide +kernel
theorem dX5_image_24 : decode cX5_image 24 = .ok (.getfield 126, 3) := by decide +kernel
theorem dX5_image_27 : decode cX5_image 27 = .ok (.putfield 191, 3) := by decide +kernel
theorem dX5_image_30 : decode cX5_image 30 = .ok (.aload_n 0, 1) := by decide +kernel
theorem dX5_image_31 : decode cX5_image 31 = .ok (.aload_n 0, 1) := by decide +kernel
theorem dX5_image_32 : decode cX5_image 32 = .ok (.getfield 12, 3) := by decide +kernel
theorem dX5_image_35 : decode cX5_image 35 = .ok (.invokevirtual 194, 3) := by decide +kernel
theorem dX5_image_38 : decode cX5_image 38 = .ok (.putfield 52, 3) := by decide +kernel
theorem dX5_image_41 : decode cX5_image 41 = .ok (.aload_n 0, 1) := by decide +kernel
theorem dX5_image_42 : decode cX5_image 42 = .ok (.getfield 185, 3) := by decide +kernel
theorem dX5_image_45 : decode cX5_image 45 = .ok (.ireturn, 1) := by decide +kernel
set_option maxRecDepth 20000 in
theorem ggX5_restore_X0_total : GoodIn wsX5_restore wsX0_total := goodIn_r _ [13, 14, 40, 41] (by decide +kernel) (by decide +kernel)
set_option maxRecDepth 20000 in
theorem gX5_restore_X0_total : GoodIn wsX5_restore (wsV RX5 194 RX0 yX0_total wsX0_total) := goodIn_app (goodIn_of _ (by decide +kernel)) ggX5_restore_X0_total
set_option maxRecDepth 20000 in
theorem ggX5_restore_X1_become : GoodIn wsX5_restore wsX1_become := goodIn_r _ [19, 20, 42, 43] (by decide +kernel) (by decide +kernel)
set_option maxRecDepth 20000 in
theorem gX5_restore_X1_become : GoodIn wsX5_restore (wsV RX5 195 RX1 yX1_become wsX1_become) := goodIn_app (goodIn_of _ (by decide +kernel)) ggX5_restore_X1_become
set_option maxRecDepth 20000 in
theorem ggX5_restore_X4_copy : GoodIn wsX5_restore wsX4_copy := goodIn_r _ [25, 26, 27, 28, 44, 45, 46] (by decide +kernel) (by decide +kernel)
set_option maxRecDepth 20000 in
theorem gX5_restore_X4_copy : GoodIn wsX5_restore (wsV RX5 188 RX4 yX4_copy wsX4_copy) := goodIn_app (goodIn_of _ (by decide +kernel)) ggX5_restore_X4_copy
theorem dX5_restore_0 : decode cX5_restore 0 = .ok (.aload_n 0, 1) := by decide +kernel
theorem dX5_restore_1 : decode cX5_restore 1 = .ok (.getfield 52, 3) := by decide +kernel
theorem dX5_restore_4 : decode cX5_restore 4 = .ok (.aload_n 0, 1) := by decide +kernel
theorem dX5_restore_5 : decode cX5_restore 5 = .ok (.getfield 12, 3) := by decide +kernel
theorem dX5_restore_8 : decode cX5_restore 8 = .ok (.invokevirtual 194, 3) := by decide +kernel
theorem dX5_restore_11 : decode cX5_restore 11 = .ok (.if_icmp .eq 6, 3) := by decide +kernel
theorem dX5_restore_14 : decode cX5_restore 14 = .ok (.bipush (-103), 2) := by decide +kernel
theorem dX5_restore_16 : decode cX5_restore 16 = .ok (.ireturn, 1) := by decide +kernel
theorem dX5_restore_17 : decode cX5_restore 17 = .ok (.aload_n 0, 1) := by decide +kernel
theorem dX5_restore_18 : decode cX5_restore 18 = .ok (.getfield 21, 3) := by decide +kernel
theorem dX5_restore_21 : decode cX5_restore 21 = .ok (.aload_n 0, 1) := by decide +kernel
theorem dX5_restore_22 : decode cX5_restore 22 = .ok (.getfield 185, 3) := by decide +kernel
theorem dX5_restore_25 : decode cX5_restore 25 = .ok (.invokevirtual 195, 3) := by decide +kernel
theorem dX5_restore_28 : decode cX5_restore 28 = .ok (.aload_n 0, 1) := by decide +kernel
theorem dX5_restore_29 : decode cX5_restore 29 = .ok (.getfield 45, 3) := by decide +kernel
theorem dX5_restore_32 : decode cX5_restore 32 = .ok (.aload_n 0, 1) := by decide +kernel
theorem dX5_restore_33 : decode cX5_restore 33 = .ok (.getfield 49, 3) := by decide +kernel
theorem dX5_restore_36 : decode cX5_restore 36 = .ok (.invokevirtual 188, 3) := by decide +kernel
theorem dX5_restore_39 : decode cX5_restore 39 = .ok (.aload_n 0, 1) := by decide +kernel
theorem dX5_restore_40 : decode cX5_restore 40 = .ok (.aload_n 0, 1) := by decide +kernel
theorem dX5_restore_41 : decode cX5_restore 41 = .ok (.getfield 191, 3) := by decide +kernel
theorem dX5_restore_44 : decode cX5_restore 44 = .ok (.putfield 126, 3) := by decide +kernel
theorem dX5_restore_47 : decode cX5_restore 47 = .ok (.aload_n 0, 1) := by decide +kernel
theorem dX5_restore_48 : decode cX5_restore 48 = .ok (.getfield 185, 3) := by decide +kernel
theorem dX5_restore_51 : decode cX5_restore 51 = .ok (.ireturn, 1) := by decide +kernel
set_option maxRecDepth 20000 in
theorem ggX5_count_X0_total : GoodIn wsX5_count wsX0_total := goodIn_r _ [10, 11, 98, 99] (by decide +kernel) (by decide +kernel)
set_option maxRecDepth 20000 in
theorem gX5_count_X0_total : GoodIn wsX5_count (wsV RX5 194 RX0 yX0_total wsX0_total) := goodIn_app (goodIn_of _ (by decide +kernel)) ggX5_count_X0_total
set_option maxRecDepth 20000 in
theorem ggX5_count_X1_outside : GoodIn wsX5_count wsX1_outside := goodIn_r _ [16, 17, 18, 7, 8, 9, 10, 11, 19, 20, 21, 15, 22, 23, 100, 101, 98, 99] (by decide +kernel) (by decide +kernel)
set_option maxRecDepth 20000 in
theorem gX5_count_X1_outside : GoodIn wsX5_count (wsV RX5 198 RX1 yX1_outside wsX1_outside) := goodIn_app (goodIn_of _ (by decide +kernel)) ggX5_count_X1_outside
set_option maxRecDepth 20000 in
theorem ggX5_count_X4_length : GoodIn wsX5_count wsX4_length := goodIn_r _ [28, 29, 102, 103, 104] (by decide +kernel) (by decide +kernel)
set_option maxRecDepth 20000 in
theorem gX5_count_X4_length : GoodIn wsX5_count (wsV RX5 162 RX4 yX4_length wsX4_length) := goodIn_app (goodIn_of _ (by decide +kernel)) ggX5_count_X4_length
set_option maxRecDepth 20000 in
theorem ggX5_count_X3_length : GoodIn wsX5_count wsX3_length := goodIn_r _ [34, 35, 105, 106, 107, 108, 109, 110, 111] (by decide +kernel) (by decide +kernel)
set_option maxRecDepth 20000 in
theorem gX5_count_X3_length : GoodIn wsX5_count (wsV RX5 60 RX3 yX3_length wsX3_length) := goodIn_app (goodIn_of _ (by decide +kernel)) ggX5_count_X3_length
set_option maxRecDepth 20000 in
theorem ggX5_count_X1_choices : GoodIn wsX5_count wsX1_choices := goodIn_r _ [39, 40, 41, 42, 15, 43, 17, 44, 45, 46, 9, 47, 48, 49, 50, 51, 52, 53, 54, 55, 56, 11, 57, 58, 59, 60, 61, 62, 63, 19, 20, 21, 22, 23, 64, 65, 66, 67, 68, 69, 70, 71, 72, 73, 74, 75, 76, 77, 78, 18, 7, 8, 10, 79, 80, 81, 82, 83, 84, 85, 86, 100, 101, 98, 99] (by decide +kernel) (by decide +kernel)
set_option maxRecDepth 20000 in
theorem gX5_count_X1_choices : GoodIn wsX5_count (wsV RX5 175 RX1 yX1_choices wsX1_choices) := goodIn_app (goodIn_of _ (by decide +kernel)) ggX5_count_X1_choices
theorem dX5_count_0 : decode cX5_count 0 = .ok (.iload_n 1, 1) := by decide +kernel
theorem dX5_count_1 : decode cX5_count 1 = .ok (.tableswitch 84 0 5 #[39, 47, 55, 60, 68, 76], 39) := by decide +kernel
theorem dX5_count_40 : decode cX5_count 40 = .ok (.aload_n 0, 1) := by decide +kernel
theorem dX5_count_41 : decode cX5_count 41 = .ok (.getfield 12, 3) := by decide +kernel
theorem dX5_count_44 : decode cX5_count 44 = .ok (.invokevirtual 194, 3) := by decide +kernel
theorem dX5_count_47 : decode cX5_count 47 = .ok (.ireturn, 1) := by decide +kernel
theorem dX5_count_48 : decode cX5_count 48 = .ok (.aload_n 0, 1) := by decide +kernel
theorem dX5_count_49 : decode cX5_count 49 = .ok (.getfield 21, 3) := by decide +kernel
theorem dX5_count_52 : decode cX5_count 52 = .ok (.invokevirtual 198, 3) := by decide +kernel
theorem dX5_count_55 : decode cX5_count 55 = .ok (.ireturn, 1) := by decide +kernel
theorem dX5_count_56 : decode cX5_count 56 = .ok (.aload_n 0, 1) := by decide +kernel
theorem dX5_count_57 : decode cX5_count 57 = .ok (.getfield 126, 3) := by decide +kernel
theorem dX5_count_60 : decode cX5_count 60 = .ok (.ireturn, 1) := by decide +kernel
theorem dX5_count_61 : decode cX5_count 61 = .ok (.aload_n 0, 1) := by decide +kernel
theorem dX5_count_62 : decode cX5_count 62 = .ok (.getfield 45, 3) := by decide +kernel
theorem dX5_count_65 : decode cX5_count 65 = .ok (.invokevirtual 162, 3) := by decide +kernel
theorem dX5_count_68 : decode cX5_count 68 = .ok (.ireturn, 1) := by decide +kernel
theorem dX5_count_69 : decode cX5_count 69 = .ok (.aload_n 0, 1) := by decide +kernel
theorem dX5_count_70 : decode cX5_count 70 = .ok (.getfield 38, 3) := by decide +kernel
theorem dX5_count_73 : decode cX5_count 73 = .ok (.invokevirtual 60, 3) := by decide +kernel
theorem dX5_count_76 : decode cX5_count 76 = .ok (.ireturn, 1) := by decide +kernel
theorem dX5_count_77 : decode cX5_count 77 = .ok (.aload_n 0, 1) := by decide +kernel
theorem dX5_count_78 : decode cX5_count 78 = .ok (.getfield 21, 3) := by decide +kernel
theorem dX5_count_81 : decode cX5_count 81 = .ok (.invokevirtual 175, 3) := by decide +kernel
theorem dX5_count_84 : decode cX5_count 84 = .ok (.ireturn, 1) := by decide +kernel
theorem dX5_count_85 : decode cX5_count 85 = .ok (.bipush (-102), 2) := by decide +kernel
theorem dX5_count_87 : decode cX5_count 87 = .ok (.ireturn, 1) := by decide +kernel
set_option maxRecDepth 20000 in
theorem ggX5_digest_X2_lookFrom : GoodIn wsX5_digest wsX2_lookFrom := goodIn_r _ [12, 13, 14, 15, 16, 17, 18, 19, 20, 21, 22, 23, 24, 25, 26, 27, 28, 29, 30, 31, 32, 33, 11, 34, 35, 36, 37, 38, 39, 40, 41, 42, 43, 44, 45, 46, 47, 48, 49, 50, 51, 52, 53, 54, 55, 56, 57, 58, 59, 60, 61, 62, 63, 64, 65, 66, 67, 68, 69, 70, 71, 72, 73, 74, 75, 76, 77, 78, 79, 80, 81, 82, 83, 84, 85, 86, 87, 88, 89, 90, 91, 92, 93, 94, 95, 96, 97, 98, 99, 100, 101, 102, 103, 104, 105, 106, 107, 108, 109, 110, 111, 112, 113, 114, 115, 116, 117, 118, 119, 120, 121, 122, 123, 240, 241, 242, 243, 244, 245, 246, 247, 248, 249, 250, 251, 252, 253, 254] (by decide +kernel) (by decide +kernel)
set_option maxRecDepth 20000 in
theorem gX5_digest_X2_lookFrom : GoodIn wsX5_digest (wsV RX5 135 RX2 yX2_lookFrom wsX2_lookFrom) := goodIn_app (goodIn_of _ (by decide +kernel)) ggX5_digest_X2_lookFrom
set_option maxRecDepth 20000 in
theorem ggX5_digest_X0_total : GoodIn wsX5_digest wsX0_total := goodIn_r _ [29, 30, 253, 254] (by decide +kernel) (by decide +kernel)
set_option maxRecDepth 20000 in
theorem gX5_digest_X0_total : GoodIn wsX5_digest (wsV RX5 194 RX0 yX0_total wsX0_total) := goodIn_app (goodIn_of _ (by decide +kernel)) ggX5_digest_X0_total
set_option maxRecDepth 20000 in
theorem ggX5_digest_X5_about : GoodIn wsX5_digest wsX5_about := goodIn_r _ [128, 4, 2, 129, 74, 75, 28, 76, 30, 130, 94, 95, 96, 97, 131, 85, 86, 22, 87, 24, 132, 100, 101, 102, 63, 103, 26, 27, 29, 84, 98, 133, 134, 135, 136, 137, 138, 139, 140, 141, 142, 143, 144, 229, 230, 231, 232, 233, 234, 235, 236, 237, 238, 239, 253, 254, 251, 252] (by decide +kernel) (by decide +kernel)
set_option maxRecDepth 20000 in
theorem gX5_digest_X5_about : GoodIn wsX5_digest (wsV RX5 205 RX5 yX5_about wsX5_about) := goodIn_app (goodIn_of _ (by decide +kernel)) ggX5_digest_X5_about
set_option maxRecDepth 20000 in
theorem ggX5_digest_X2_mostWalls : GoodIn wsX5_digest wsX2_mostWalls := goodIn_r _ [148, 17, 18, 41, 149, 150, 151, 152, 47, 48, 49, 22, 50, 24, 153, 134, 135, 136, 84, 85, 86, 87, 240, 241, 242, 243, 244, 245, 246, 247, 248, 249, 250, 251, 252] (by decide +kernel) (by decide +kernel)
set_option maxRecDepth 20000 in
theorem gX5_digest_X2_mostWalls : GoodIn wsX5_digest (wsV RX5 150 RX2 yX2_mostWalls wsX2_mostWalls) := goodIn_app (goodIn_of _ (by decide +kernel)) ggX5_digest_X2_mostWalls
set_option maxRecDepth 20000 in
theorem ggX5_digest_X0_all : GoodIn wsX5_digest wsX0_all := goodIn_r _ [157, 30, 253, 254] (by decide +kernel) (by decide +kernel)
set_option maxRecDepth 20000 in
theorem gX5_digest_X0_all : GoodIn wsX5_digest (wsV RX5 208 RX0 yX0_all wsX0_all) := goodIn_app (goodIn_of _ (by decide +kernel)) ggX5_digest_X0_all
set_option maxRecDepth 20000 in
theorem ggX5_digest_X2_placeWhereOut : GoodIn wsX5_digest wsX2_placeWhereOut := goodIn_r _ [161, 17, 18, 41, 47, 48, 49, 22, 50, 24, 162, 163, 164, 165, 240, 241, 242, 243, 244, 245, 246, 247, 248, 249, 250, 251, 252] (by decide +kernel) (by decide +kernel)
set_option maxRecDepth 20000 in
theorem gX5_digest_X2_placeWhereOut : GoodIn wsX5_digest (wsV RX5 138 RX2 yX2_placeWhereOut wsX2_placeWhereOut) := goodIn_app (goodIn_of _ (by decide +kernel)) ggX5_digest_X2_placeWhereOut
set_option maxRecDepth 20000 in
theorem ggX5_digest_X1_toNumber : GoodIn wsX5_digest wsX1_toNumber := goodIn_r _ [23, 24, 251, 252] (by decide +kernel) (by decide +kernel)
set_option maxRecDepth 20000 in
theorem gX5_digest_X1_toNumber : GoodIn wsX5_digest (wsV RX5 129 RX1 yX1_toNumber wsX1_toNumber) := goodIn_app (goodIn_of _ (by decide +kernel)) ggX5_digest_X1_toNumber
set_option maxRecDepth 20000 in
theorem ggX5_digest_X2_total : GoodIn wsX5_digest wsX2_total := goodIn_r _ [170, 17, 240, 241, 242, 243, 244, 245, 246, 247, 248, 249, 250] (by decide +kernel) (by decide +kernel)
set_option maxRecDepth 20000 in
theorem gX5_digest_X2_total : GoodIn wsX5_digest (wsV RX5 153 RX2 yX2_total wsX2_total) := goodIn_app (goodIn_of _ (by decide +kernel)) ggX5_digest_X2_total
set_option maxRecDepth 20000 in
theorem ggX5_digest_X2_fitting : GoodIn wsX5_digest wsX2_fitting := goodIn_r _ [174, 17, 18, 41, 47, 48, 49, 22, 50, 24, 175, 176, 177, 178, 179, 180, 181, 182, 183, 138, 139, 140, 63, 103, 26, 27, 28, 29, 30, 141, 142, 143, 144, 84, 85, 86, 87, 240, 241, 242, 243, 244, 245, 246, 247, 248, 249, 250, 251, 252, 255, 256, 257, 253, 254] (by decide +kernel) (by decide +kernel)
set_option maxRecDepth 20000 in
theorem gX5_digest_X2_fitting : GoodIn wsX5_digest (wsV RX5 164 RX2 yX2_fitting wsX2_fitting) := goodIn_app (goodIn_of _ (by decide +kernel)) ggX5_digest_X2_fitting
set_option maxRecDepth 20000 in
theorem ggX5_digest_X2_bestAsked : GoodIn wsX5_digest wsX2_bestAsked := goodIn_r _ [187, 14, 25, 26, 27, 28, 29, 30, 188, 189, 190, 11, 191, 192, 17, 18, 41, 149, 150, 151, 152, 193, 194, 195, 196, 47, 48, 49, 22, 50, 24, 197, 138, 139, 140, 63, 103, 141, 142, 143, 144, 84, 85, 86, 87, 175, 176, 177, 178, 179, 180, 181, 182, 183, 240, 241, 242, 243, 244, 245, 246, 247, 248, 249, 250, 253, 254, 251, 252, 255, 256, 257] (by decide +kernel) (by decide +kernel)
set_option maxRecDepth 20000 in
theorem gX5_digest_X2_bestAsked : GoodIn wsX5_digest (wsV RX5 172 RX2 yX2_bestAsked wsX2_bestAsked) := goodIn_app (goodIn_of _ (by decide +kernel)) ggX5_digest_X2_bestAsked
set_option maxRecDepth 20000 in
theorem ggX5_digest_X2_stepsAt : GoodIn wsX5_digest wsX2_stepsAt := goodIn_r _ [54, 35, 240, 241, 242, 243, 244, 245, 246, 247, 248, 249, 250] (by decide +kernel) (by decide +kernel)
set_option maxRecDepth 20000 in
theorem gX5_digest_X2_stepsAt : GoodIn wsX5_digest (wsV RX5 141 RX2 yX2_stepsAt wsX2_stepsAt) := goodIn_app (goodIn_of _ (by decide +kernel)) ggX5_digest_X2_stepsAt
set_option maxRecDepth 20000 in
theorem ggX5_digest_X2_firstAt : GoodIn wsX5_digest wsX2_firstAt := goodIn_r _ [58, 36, 240, 241, 242, 243, 244, 245, 246, 247, 248, 249, 250] (by decide +kernel) (by decide +kernel)
set_option maxRecDepth 20000 in
theorem gX5_digest_X2_firstAt : GoodIn wsX5_digest (wsV RX5 144 RX2 yX2_firstAt wsX2_firstAt) := goodIn_app (goodIn_of _ (by decide +kernel)) ggX5_digest_X2_firstAt
set_option maxRecDepth 20000 in
theorem ggX5_digest_X3_length : GoodIn wsX5_digest wsX3_length := goodIn_r _ [204, 205, 258, 259, 260, 261, 262, 263, 264] (by decide +kernel) (by decide +kernel)
set_option maxRecDepth 20000 in
theorem gX5_digest_X3_length : GoodIn wsX5_digest (wsV RX5 60 RX3 yX3_length wsX3_length) := goodIn_app (goodIn_of _ (by decide +kernel)) ggX5_digest_X3_length
set_option maxRecDepth 20000 in
theorem ggX5_digest_X3_letterAt : GoodIn wsX5_digest wsX3_letterAt := goodIn_r _ [209, 210, 258, 259, 260, 261, 262, 263, 264] (by decide +kernel) (by decide +kernel)
set_option maxRecDepth 20000 in
theorem gX5_digest_X3_letterAt : GoodIn wsX5_digest (wsV RX5 211 RX3 yX3_letterAt wsX3_letterAt) := goodIn_app (goodIn_of _ (by decide +kernel)) ggX5_digest_X3_letterAt
set_option maxRecDepth 20000 in
theorem ggX5_digest_X5_count : GoodIn wsX5_digest wsX5_count := goodIn_r _ [214, 4, 2, 215, 6, 7, 124, 26, 27, 28, 29, 30, 216, 217, 218, 22, 219, 63, 103, 84, 85, 86, 87, 24, 220, 221, 222, 178, 223, 180, 200, 201, 202, 203, 204, 205, 224, 225, 226, 227, 228, 60, 61, 62, 64, 65, 66, 67, 68, 69, 70, 71, 72, 73, 74, 75, 76, 77, 78, 79, 80, 81, 82, 83, 88, 89, 90, 91, 92, 93, 94, 95, 96, 97, 98, 99, 100, 101, 102, 104, 105, 106, 107, 108, 109, 110, 111, 229, 230, 231, 232, 233, 234, 235, 236, 237, 238, 239, 253, 254, 251, 252, 255, 256, 257, 258, 259, 260, 261, 262, 263, 264] (by decide +kernel) (by decide +kernel)
set_option maxRecDepth 20000 in
theorem gX5_digest_X5_count : GoodIn wsX5_digest (wsV RX5 214 RX5 yX5_count wsX5_count) := goodIn_app (goodIn_of _ (by decide +kernel)) ggX5_digest_X5_count
theorem dX5_digest_0 : decode cX5_digest 0 = .ok (.aload_n 0, 1) := by decide +kernel
theorem dX5_digest_1 : decode cX5_digest 1 = .ok (.getfield 31, 3) := by decide +kernel
theorem dX5_digest_4 : decode cX5_digest 4 = .ok (.aload_n 0, 1) := by decide +kernel
theorem dX5_digest_5 : decode cX5_digest 5 = .ok (.getfield 21, 3) := by decide +kernel
theorem dX5_digest_8 : decode cX5_digest 8 = .ok (.invokevirtual 135, 3) := by decide +kernel
theorem dX5_digest_11 : decode cX5_digest 11 = .ok (.ldc2_w 201, 3) := by decide +kernel
theorem dX5_digest_14 : decode cX5_digest 14 = .ok (.lstore_n 1, 1) := by decide +kernel
theorem dX5_digest_15 : decode cX5_digest 15 = .ok (.iconst 0, 1) := by decide +kernel
theorem dX5_digest_16 : decode cX5_digest 16 = .ok (.istore_n 3, 1) := by decide +kernel
theorem dX5_digest_17 : decode cX5_digest 17 = .ok (.iload_n 3, 1) := by decide +kernel
theorem dX5_digest_18 : decode cX5_digest 18 = .ok (.aload_n 0, 1) := by decide +kernel
theorem dX5_digest_19 : decode cX5_digest 19 = .ok (.getfield 12, 3) := by decide +kernel
theorem dX5_digest_22 : decode cX5_digest 22 = .ok (.invokevirtual 194, 3) := by decide +kernel
theorem dX5_digest_25 : decode cX5_digest 25 = .ok (.if_icmp .ge 56, 3) := by decide +kernel
theorem dX5_digest_28 : decode cX5_digest 28 = .ok (.iconst 0, 1) := by decide +kernel
theorem dX5_digest_29 : decode cX5_digest 29 = .ok (.istore 4, 2) := by decide +kernel
theorem dX5_digest_31 : decode cX5_digest 31 = .ok (.iload 4, 2) := by decide +kernel
theorem dX5_digest_33 : decode cX5_digest 33 = .ok (.bipush 7, 2) := by decide +kernel
theorem dX5_digest_35 : decode cX5_digest 35 = .ok (.if_icmp .gt 24, 3) := by decide +kernel
theorem dX5_digest_38 : decode cX5_digest 38 = .ok (.ldc2_w 203, 3) := by decide +kernel
theorem dX5_digest_41 : decode cX5_digest 41 = .ok (.lload_n 1, 1) := by decide +kernel
theorem dX5_digest_42 : decode cX5_digest 42 = .ok (.lmul, 1) := by decide +kernel
theorem dX5_digest_43 : decode cX5_digest 43 = .ok (.aload_n 0, 1) := by decide +kernel
theorem dX5_digest_44 : decode cX5_digest 44 = .ok (.iload_n 3, 1) := by decide +kernel
theorem dX5_digest_45 : decode cX5_digest 45 = .ok (.iload 4, 2) := by decide +kernel
theorem dX5_digest_47 : decode cX5_digest 47 = .ok (.invokevirtual 205, 3) := by decide +kernel
theorem dX5_digest_50 : decode cX5_digest 50 = .ok (.i2l, 1) := by decide +kernel
theorem dX5_digest_51 : decode cX5_digest 51 = .ok (.ladd, 1) := by decide +kernel
theorem dX5_digest_52 : decode cX5_digest 52 = .ok (.lstore_n 1, 1) := by decide +kernel
theorem dX5_digest_53 : decode cX5_digest 53 = .ok (.iinc 4 1, 3) := by decide +kernel
theorem dX5_digest_56 : decode cX5_digest 56 = .ok (.goto (-25), 3) := by decide +kernel
theorem dX5_digest_59 : decode cX5_digest 59 = .ok (.ldc2_w 203, 3) := by decide +kernel
theorem dX5_digest_62 : decode cX5_digest 62 = .ok (.lload_n 1, 1) := by decide +kernel
theorem dX5_digest_63 : decode cX5_digest 63 = .ok (.lmul, 1) := by decide +kernel
theorem dX5_digest_64 : decode cX5_digest 64 = .ok (.aload_n 0, 1) := by decide +kernel
theorem dX5_digest_65 : decode cX5_digest 65 = .ok (.getfield 31, 3) := by decide +kernel
theorem dX5_digest_68 : decode cX5_digest 68 = .ok (.iload_n 3, 1) := by decide +kernel
theorem dX5_digest_69 : decode cX5_digest 69 = .ok (.invokevirtual 150, 3) := by decide +kernel
theorem dX5_digest_72 : decode cX5_digest 72 = .ok (.i2l, 1) := by decide +kernel
theorem dX5_digest_73 : decode cX5_digest 73 = .ok (.ladd, 1) := by decide +kernel
theorem dX5_digest_74 : decode cX5_digest 74 = .ok (.lstore_n 1, 1) := by decide +kernel
theorem dX5_digest_75 : decode cX5_digest 75 = .ok (.iinc 3 1, 3) := by decide +kernel
theorem dX5_digest_78 : decode cX5_digest 78 = .ok (.goto (-61), 3) := by decide +kernel
theorem dX5_digest_81 : decode cX5_digest 81 = .ok (.aload_n 0, 1) := by decide +kernel
theorem dX5_digest_82 : decode cX5_digest 82 = .ok (.getfield 31, 3) := by decide +kernel
theorem dX5_digest_85 : decode cX5_digest 85 = .ok (.aload_n 0, 1) := by decide +kernel
theorem dX5_digest_86 : decode cX5_digest 86 = .ok (.getfield 12, 3) := by decide +kernel
theorem dX5_digest_89 : decode cX5_digest 89 = .ok (.invokevirtual 208, 3) := by decide +kernel
theorem dX5_digest_92 : decode cX5_digest 92 = .ok (.invokevirtual 138, 3) := by decide +kernel
theorem dX5_digest_95 : decode cX5_digest 95 = .ok (.istore_n 3, 1) := by decide +kernel
theorem dX5_digest_96 : decode cX5_digest 96 = .ok (.ldc2_w 203, 3) := by decide +kernel
theorem dX5_digest_99 : decode cX5_digest 99 = .ok (.lload_n 1, 1) := by decide +kernel
theorem dX5_digest_100 : decode cX5_digest 100 = .ok (.lmul, 1) := by decide +kernel
theorem dX5_digest_101 : decode cX5_digest 101 = .ok (.aload_n 0, 1) := by decide +kernel
theorem dX5_digest_102 : decode cX5_digest 102 = .ok (.getfield 21, 3) := by decide +kernel
theorem dX5_digest_105 : decode cX5_digest 105 = .ok (.invokevirtual 129, 3) := by decide +kernel
theorem dX5_digest_108 : decode cX5_digest 108 = .ok (.i2l, 1) := by decide +kernel
theorem dX5_digest_109 : decode cX5_digest 109 = .ok (.ladd, 1) := by decide +kernel
theorem dX5_digest_110 : decode cX5_digest 110 = .ok (.lstore_n 1, 1) := by decide +kernel
theorem dX5_digest_111 : decode cX5_digest 111 = .ok (.ldc2_w 203, 3) := by decide +kernel
theorem dX5_digest_114 : decode cX5_digest 114 = .ok (.lload_n 1, 1) := by decide +kernel
theorem dX5_digest_115 : decode cX5_digest 115 = .ok (.lmul, 1) := by decide +kernel
theorem dX5_digest_116 : decode cX5_digest 116 = .ok (.aload_n 0, 1) := by decide +kernel
theorem dX5_digest_117 : decode cX5_digest 117 = .ok (.getfield 31, 3) := by decide +kernel
theorem dX5_digest_120 : decode cX5_digest 120 = .ok (.invokevirtual 153, 3) := by decide +kernel
theorem dX5_digest_123 : decode cX5_digest 123 = .ok (.i2l, 1) := by decide +kernel
theorem dX5_digest_124 : decode cX5_digest 124 = .ok (.ladd, 1) := by decide +kernel
theorem dX5_digest_125 : decode cX5_digest 125 = .ok (.lstore_n 1, 1) := by decide +kernel
theorem dX5_digest_126 : decode cX5_digest 126 = .ok (.ldc2_w 203, 3) := by decide +kernel
theorem dX5_digest_129 : decode cX5_digest 129 = .ok (.lload_n 1, 1) := by decide +kernel
theorem dX5_digest_130 : decode cX5_digest 130 = .ok (.lmul, 1) := by decide +kernel
theorem dX5_digest_131 : decode cX5_digest 131 = .ok (.aload_n 0, 1) := by decide +kernel
theorem dX5_digest_132 : decode cX5_digest 132 = .ok (.getfield 31, 3) := by decide +kernel
theorem dX5_digest_135 : decode cX5_digest 135 = .ok (.aload_n 0, 1) := by decide +kernel
theorem dX5_digest_136 : decode cX5_digest 136 = .ok (.getfield 45, 3) := by decide +kernel
theorem dX5_digest_139 : decode cX5_digest 139 = .ok (.invokevirtual 164, 3) := by decide +kernel
theorem dX5_digest_142 : decode cX5_digest 142 = .ok (.i2l, 1) := by decide +kernel
theorem dX5_digest_143 : decode cX5_digest 143 = .ok (.ladd, 1) := by decide +kernel
theorem dX5_digest_144 : decode cX5_digest 144 = .ok (.lstore_n 1, 1) := by decide +kernel
theorem dX5_digest_145 : decode cX5_digest 145 = .ok (.ldc2_w 203, 3) := by decide +kernel
theorem dX5_digest_148 : decode cX5_digest 148 = .ok (.lload_n 1, 1) := by decide +kernel
theorem dX5_digest_149 : decode cX5_digest 149 = .ok (.lmul, 1) := by decide +kernel
theorem dX5_digest_150 : decode cX5_digest 150 = .ok (.aload_n 0, 1) := by decide +kernel
theorem dX5_digest_151 : decode cX5_digest 151 = .ok (.getfield 31, 3) := by decide +kernel
theorem dX5_digest_154 : decode cX5_digest 154 = .ok (.aload_n 0, 1) := by decide +kernel
theorem dX5_digest_155 : decode cX5_digest 155 = .ok (.getfield 45, 3) := by decide +kernel
theorem dX5_digest_158 : decode cX5_digest 158 = .ok (.invokevirtual 172, 3) := by decide +kernel
theorem dX5_digest_161 : decode cX5_digest 161 = .ok (.i2l, 1) := by decide +kernel
theorem dX5_digest_162 : decode cX5_digest 162 = .ok (.ladd, 1) := by decide +kernel
theorem dX5_digest_163 : decode cX5_digest 163 = .ok (.lstore_n 1, 1) := by decide +kernel
theorem dX5_digest_164 : decode cX5_digest 164 = .ok (.ldc2_w 203, 3) := by decide +kernel
theorem dX5_digest_167 : decode cX5_digest 167 = .ok (.lload_n 1, 1) := by decide +kernel
theorem dX5_digest_168 : decode cX5_digest 168 = .ok (.lmul, 1) := by decide +kernel
theorem dX5_digest_169 : decode cX5_digest 169 = .ok (.aload_n 0, 1) := by decide +kernel
theorem dX5_digest_170 : decode cX5_digest 170 = .ok (.getfield 31, 3) := by decide +kernel
theorem dX5_digest_173 : decode cX5_digest 173 = .ok (.iload_n 3, 1) := by decide +kernel
theorem dX5_digest_174 : decode cX5_digest 174 = .ok (.invokevirtual 141, 3) := by decide +kernel
theorem dX5_digest_177 : decode cX5_digest 177 = .ok (.i2l, 1) := by decide +kernel
theorem dX5_digest_178 : decode cX5_digest 178 = .ok (.ladd, 1) := by decide +kernel
theorem dX5_digest_179 : decode cX5_digest 179 = .ok (.lstore_n 1, 1) := by decide +kernel
theorem dX5_digest_180 : decode cX5_digest 180 = .ok (.ldc2_w 203, 3) := by decide +kernel
theorem dX5_digest_183 : decode cX5_digest 183 = .ok (.lload_n 1, 1) := by decide +kernel
theorem dX5_digest_184 : decode cX5_digest 184 = .ok (.lmul, 1) := by decide +kernel
theorem dX5_digest_185 : decode cX5_digest 185 = .ok (.aload_n 0, 1) := by decide +kernel
theorem dX5_digest_186 : decode cX5_digest 186 = .ok (.getfield 31, 3) := by decide +kernel
theorem dX5_digest_189 : decode cX5_digest 189 = .ok (.iload_n 3, 1) := by decide +kernel
theorem dX5_digest_190 : decode cX5_digest 190 = .ok (.invokevirtual 144, 3) := by decide +kernel
theorem dX5_digest_193 : decode cX5_digest 193 = .ok (.i2l, 1) := by decide +kernel
theorem dX5_digest_194 : decode cX5_digest 194 = .ok (.ladd, 1) := by decide +kernel
theorem dX5_digest_195 : decode cX5_digest 195 = .ok (.lstore_n 1, 1) := by decide +kernel
theorem dX5_digest_196 : decode cX5_digest 196 = .ok (.iconst 0, 1) := by decide +kernel
theorem dX5_digest_197 : decode cX5_digest 197 = .ok (.istore 4, 2) := by decide +kernel
theorem dX5_digest_199 : decode cX5_digest 199 = .ok (.iload 4, 2) := by decide +kernel
theorem dX5_digest_201 : decode cX5_digest 201 = .ok (.aload_n 0, 1) := by decide +kernel
theorem dX5_digest_202 : decode cX5_digest 202 = .ok (.getfield 38, 3) := by decide +kernel
theorem dX5_digest_205 : decode cX5_digest 205 = .ok (.invokevirtual 60, 3) := by decide +kernel
theorem dX5_digest_208 : decode cX5_digest 208 = .ok (.if_icmp .ge 26, 3) := by decide +kernel
theorem dX5_digest_211 : decode cX5_digest 211 = .ok (.ldc2_w 203, 3) := by decide +kernel
theorem dX5_digest_214 : decode cX5_digest 214 = .ok (.lload_n 1, 1) := by decide +kernel
theorem dX5_digest_215 : decode cX5_digest 215 = .ok (.lmul, 1) := by decide +kernel
theorem dX5_digest_216 : decode cX5_digest 216 = .ok (.aload_n 0, 1) := by decide +kernel
theorem dX5_digest_217 : decode cX5_digest 217 = .ok (.getfield 38, 3) := by decide +kernel
theorem dX5_digest_220 : decode cX5_digest 220 = .ok (.iload 4, 2) := by decide +kernel
theorem dX5_digest_222 : decode cX5_digest 222 = .ok (.invokevirtual 211, 3) := by decide +kernel
theorem dX5_digest_225 : decode cX5_digest 225 = .ok (.i2l, 1) := by decide +kernel
theorem dX5_digest_226 : decode cX5_digest 226 = .ok (.ladd, 1) := by decide +kernel
theorem dX5_digest_227 : decode cX5_digest 227 = .ok (.lstore_n 1, 1) := by decide +kernel
theorem dX5_digest_228 : decode cX5_digest 228 = .ok (.iinc 4 1, 3) := by decide +kernel
theorem dX5_digest_231 : decode cX5_digest 231 = .ok (.goto (-32), 3) := by decide +kernel
theorem dX5_digest_234 : decode cX5_digest 234 = .ok (.iconst 0, 1) := by decide +kernel
theorem dX5_digest_235 : decode cX5_digest 235 = .ok (.istore 4, 2) := by decide +kernel
theorem dX5_digest_237 : decode cX5_digest 237 = .ok (.iload 4, 2) := by decide +kernel
theorem dX5_digest_239 : decode cX5_digest 239 = .ok (.iconst 5, 1) := by decide +kernel
theorem dX5_digest_240 : decode cX5_digest 240 = .ok (.if_icmp .gt 23, 3) := by decide +kernel
theorem dX5_digest_243 : decode cX5_digest 243 = .ok (.ldc2_w 203, 3) := by decide +kernel
theorem dX5_digest_246 : decode cX5_digest 246 = .ok (.lload_n 1, 1) := by decide +kernel
theorem dX5_digest_247 : decode cX5_digest 247 = .ok (.lmul, 1) := by decide +kernel
theorem dX5_digest_248 : decode cX5_digest 248 = .ok (.aload_n 0, 1) := by decide +kernel
theorem dX5_digest_249 : decode cX5_digest 249 = .ok (.iload 4, 2) := by decide +kernel
theorem dX5_digest_251 : decode cX5_digest 251 = .ok (.invokevirtual 214, 3) := by decide +kernel
theorem dX5_digest_254 : decode cX5_digest 254 = .ok (.i2l, 1) := by decide +kernel
theorem dX5_digest_255 : decode cX5_digest 255 = .ok (.ladd, 1) := by decide +kernel
theorem dX5_digest_256 : decode cX5_digest 256 = .ok (.lstore_n 1, 1) := by decide +kernel
theorem dX5_digest_257 : decode cX5_digest 257 = .ok (.iinc 4 1, 3) := by decide +kernel
theorem dX5_digest_260 : decode cX5_digest 260 = .ok (.goto (-23), 3) := by decide +kernel
theorem dX5_digest_263 : decode cX5_digest 263 = .ok (.lload_n 1, 1) := by decide +kernel
theorem dX5_digest_264 : decode cX5_digest 264 = .ok (.lreturn, 1) := by decide +kernel
theorem dX5_isBetween_0 : decode cX5_isBetween 0 = .ok (.iload_n 0, 1) := by decide +kernel
theorem dX5_isBetween_1 : decode cX5_isBetween 1 = .ok (.iload_n 1, 1) := by decide +kernel
theorem dX5_isBetween_2 : decode cX5_isBetween 2 = .ok (.if_icmp .lt 12, 3) := by decide +kernel
theorem dX5_isBetween_5 : decode cX5_isBetween 5 = .ok (.iload_n 0, 1) := by decide +kernel
theorem dX5_isBetween_6 : decode cX5_isBetween 6 = .ok (.iload_n 2, 1) := by decide +kernel
theorem dX5_isBetween_7 : decode cX5_isBetween 7 = .ok (.if_icmp .gt 7, 3) := by decide +kernel
theorem dX5_isBetween_10 : decode cX5_isBetween 10 = .ok (.iconst 1, 1) := by decide +kernel
theorem dX5_isBetween_11 : decode cX5_isBetween 11 = .ok (.goto 4, 3) := by decide +kernel
theorem dX5_isBetween_14 : decode cX5_isBetween 14 = .ok (.iconst 0, 1) := by decide +kernel
theorem dX5_isBetween_15 : decode cX5_isBetween 15 = .ok (.ireturn, 1) := by decide +kernel
theorem dX5_nextSeed_0 : decode cX5_nextSeed 0 = .ok (.ldc2_w 217, 3) := by decide +kernel
theorem dX5_nextSeed_3 : decode cX5_nextSeed 3 = .ok (.iload_n 0, 1) := by decide +kernel
theorem dX5_nextSeed_4 : decode cX5_nextSeed 4 = .ok (.i2l, 1) := by decide +kernel
theorem dX5_nextSeed_5 : decode cX5_nextSeed 5 = .ok (.lmul, 1) := by decide +kernel
theorem dX5_nextSeed_6 : decode cX5_nextSeed 6 = .ok (.ldc2_w 219, 3) := by decide +kernel
theorem dX5_nextSeed_9 : decode cX5_nextSeed 9 = .ok (.ladd, 1) := by decide +kernel
theorem dX5_nextSeed_10 : decode cX5_nextSeed 10 = .ok (.ldc2_w 221, 3) := by decide +kernel
theorem dX5_nextSeed_13 : decode cX5_nextSeed 13 = .ok (.lrem, 1) := by decide +kernel
theorem dX5_nextSeed_14 : decode cX5_nextSeed 14 = .ok (.l2i, 1) := by decide +kernel
theorem dX5_nextSeed_15 : decode cX5_nextSeed 15 = .ok (.ireturn, 1) := by decide +kernel
theorem dX5_isDeed_0 : decode cX5_isDeed 0 = .ok (.iload_n 0, 1) := by decide +kernel
theorem dX5_isDeed_1 : decode cX5_isDeed 1 = .ok (.ifCond .lt 9, 3) := by decide +kernel
theorem dX5_isDeed_4 : decode cX5_isDeed 4 = .ok (.iload_n 0, 1) := by decide +kernel
theorem dX5_isDeed_5 : decode cX5_isDeed 5 = .ok (.bipush 45, 2) := by decide +kernel
theorem dX5_isDeed_7 : decode cX5_isDeed 7 = .ok (.if_icmp .lt 5, 3) := by decide +kernel
theorem dX5_isDeed_10 : decode cX5_isDeed 10 = .ok (.iconst 0, 1) := by decide +kernel
theorem dX5_isDeed_11 : decode cX5_isDeed 11 = .ok (.ireturn, 1) := by decide +kernel
theorem dX5_isDeed_12 : decode cX5_isDeed 12 = .ok (.iload_n 0, 1) := by decide +kernel
theorem dX5_isDeed_13 : decode cX5_isDeed 13 = .ok (.bipush 25, 2) := by decide +kernel
theorem dX5_isDeed_15 : decode cX5_isDeed 15 = .ok (.if_icmp .lt 17, 3) := by decide +kernel
theorem dX5_isDeed_18 : decode cX5_isDeed 18 = .ok (.iload_n 0, 1) := by decide +kernel
theorem dX5_isDeed_19 : decode cX5_isDeed 19 = .ok (.bipush 30, 2) := by decide +kernel
theorem dX5_isDeed_21 : decode cX5_isDeed 21 = .ok (.if_icmp .lt 15, 3) := by decide +kernel
theorem dX5_isDeed_24 : decode cX5_isDeed 24 = .ok (.iload_n 0, 1) := by decide +kernel
theorem dX5_isDeed_25 : decode cX5_isDeed 25 = .ok (.bipush 10, 2) := by decide +kernel
theorem dX5_isDeed_27 : decode cX5_isDeed 27 = .ok (.irem, 1) := by decide +kernel
theorem dX5_isDeed_28 : decode cX5_isDeed 28 = .ok (.iconst 5, 1) := by decide +kernel
theorem dX5_isDeed_29 : decode cX5_isDeed 29 = .ok (.if_icmp .ge 7, 3) := by decide +kernel
theorem dX5_isDeed_32 : decode cX5_isDeed 32 = .ok (.iconst 1, 1) := by decide +kernel
theorem dX5_isDeed_33 : decode cX5_isDeed 33 = .ok (.goto 4, 3) := by decide +kernel
theorem dX5_isDeed_36 : decode cX5_isDeed 36 = .ok (.iconst 0, 1) := by decide +kernel
theorem dX5_isDeed_37 : decode cX5_isDeed 37 = .ok (.ireturn, 1) := by decide +kernel
theorem dX5_doer_0 : decode cX5_doer 0 = .ok (.iload_n 0, 1) := by decide +kernel
theorem dX5_doer_1 : decode cX5_doer 1 = .ok (.bipush 25, 2) := by decide +kernel
theorem dX5_doer_3 : decode cX5_doer 3 = .ok (.if_icmp .ge 9, 3) := by decide +kernel
theorem dX5_doer_6 : decode cX5_doer 6 = .ok (.iload_n 0, 1) := by decide +kernel
theorem dX5_doer_7 : decode cX5_doer 7 = .ok (.iconst 5, 1) := by decide +kernel
theorem dX5_doer_8 : decode cX5_doer 8 = .ok (.idiv, 1) := by decide +kernel
theorem dX5_doer_9 : decode cX5_doer 9 = .ok (.goto 7, 3) := by decide +kernel
theorem dX5_doer_12 : decode cX5_doer 12 = .ok (.iload_n 0, 1) := by decide +kernel
theorem dX5_doer_13 : decode cX5_doer 13 = .ok (.bipush 10, 2) := by decide +kernel
theorem dX5_doer_15 : decode cX5_doer 15 = .ok (.irem, 1) := by decide +kernel
theorem dX5_doer_16 : decode cX5_doer 16 = .ok (.ireturn, 1) := by decide +kernel
set_option maxRecDepth 20000 in
theorem ggX5_prey_X5_doer : GoodIn wsX5_prey wsX5_doer := goodIn_r _ [4] (by decide +kernel) (by decide +kernel)
set_option maxRecDepth 20000 in
theorem gX5_prey_X5_doer : GoodIn wsX5_prey (va_wsS RX5 223 yX5_doer wsX5_doer) := goodIn_app (goodIn_of _ (by decide +kernel)) ggX5_prey_X5_doer
theorem dX5_prey_0 : decode cX5_prey 0 = .ok (.iload_n 0, 1) := by decide +kernel
theorem dX5_prey_1 : decode cX5_prey 1 = .ok (.bipush 25, 2) := by decide +kernel
theorem dX5_prey_3 : decode cX5_prey 3 = .ok (.if_icmp .ge 9, 3) := by decide +kernel
theorem dX5_prey_6 : decode cX5_prey 6 = .ok (.iload_n 0, 1) := by decide +kernel
theorem dX5_prey_7 : decode cX5_prey 7 = .ok (.iconst 5, 1) := by decide +kernel
theorem dX5_prey_8 : decode cX5_prey 8 = .ok (.irem, 1) := by decide +kernel
theorem dX5_prey_9 : decode cX5_prey 9 = .ok (.goto 7, 3) := by decide +kernel
theorem dX5_prey_12 : decode cX5_prey 12 = .ok (.iload_n 0, 1) := by decide +kernel
theorem dX5_prey_13 : decode cX5_prey 13 = .ok (.invokestatic 223, 3) := by decide +kernel
theorem dX5_prey_16 : decode cX5_prey 16 = .ok (.ireturn, 1) := by decide +kernel
