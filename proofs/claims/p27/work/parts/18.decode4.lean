set_option maxRecDepth 20000 in
theorem ggX4_init_X0_init : GoodIn wsX4_init wsX0_init := goodIn_r _ [25, 26, 2, 3, 27, 28, 29, 30, 31, 32, 33, 34, 35, 36, 37, 38, 60, 61, 62, 63, 64, 65, 66, 67, 68, 69, 70, 71] (by decide +kernel) (by decide +kernel)
set_option maxRecDepth 20000 in
theorem gX4_init_X0_init : GoodIn wsX4_init (wsX0_init) := ggX4_init_X0_init
set_option maxRecDepth 20000 in
theorem ggX4_init_X1_init : GoodIn wsX4_init wsX1_init := goodIn_r _ [41, 42, 2, 3, 43, 44, 5, 6, 45, 24, 25, 26, 27, 28, 29, 30, 31, 32, 33, 34, 35, 36, 37, 38, 78, 79, 60, 61, 62, 63, 64, 65, 66, 67, 68, 69, 70, 71] (by decide +kernel) (by decide +kernel)
set_option maxRecDepth 20000 in
theorem gX4_init_X1_init : GoodIn wsX4_init (wsX1_init) := ggX4_init_X1_init
set_option maxRecDepth 20000 in
theorem ggX4_init_X2_init : GoodIn wsX4_init wsX2_init := goodIn_r _ [48, 49, 2, 3, 21, 50, 51, 52, 53, 54, 80, 81, 82, 83] (by decide +kernel) (by decide +kernel)
set_option maxRecDepth 20000 in
theorem gX4_init_X2_init : GoodIn wsX4_init (wsX2_init) := ggX4_init_X2_init
set_option maxRecDepth 20000 in
theorem ggX4_init_X3_init : GoodIn wsX4_init wsX3_init := goodIn_r _ [57, 58, 2, 3, 27, 59, 84, 85] (by decide +kernel) (by decide +kernel)
set_option maxRecDepth 20000 in
theorem gX4_init_X3_init : GoodIn wsX4_init (wsX3_init) := ggX4_init_X3_init
theorem dX4_init_0 : decode cX4_init 0 = .ok (.aload_n 0, 1) := by decide +kernel
theorem dX4_init_1 : decode cX4_init 1 = .ok (.invokespecial 1, 3) := by decide +kernel
theorem dX4_init_4 : decode cX4_init 4 = .ok (.aload_n 0, 1) := by decide +kernel
theorem dX4_init_5 : decode cX4_init 5 = .ok (.new 7, 3) := by decide +kernel
theorem dX4_init_8 : decode cX4_init 8 = .ok (.dup, 1) := by decide +kernel
theorem dX4_init_9 : decode cX4_init 9 = .ok (.invokespecial 9, 3) := by decide +kernel
theorem dX4_init_12 : decode cX4_init 12 = .ok (.putfield 10, 3) := by decide +kernel
theorem dX4_init_15 : decode cX4_init 15 = .ok (.aload_n 0, 1) := by decide +kernel
theorem dX4_init_16 : decode cX4_init 16 = .ok (.new 7, 3) := by decide +kernel
theorem dX4_init_19 : decode cX4_init 19 = .ok (.dup, 1) := by decide +kernel
theorem dX4_init_20 : decode cX4_init 20 = .ok (.invokespecial 9, 3) := by decide +kernel
theorem dX4_init_23 : decode cX4_init 23 = .ok (.putfield 16, 3) := by decide +kernel
theorem dX4_init_26 : decode cX4_init 26 = .ok (.aload_n 0, 1) := by decide +kernel
theorem dX4_init_27 : decode cX4_init 27 = .ok (.new 19, 3) := by decide +kernel
theorem dX4_init_30 : decode cX4_init 30 = .ok (.dup, 1) := by decide +kernel
theorem dX4_init_31 : decode cX4_init 31 = .ok (.invokespecial 21, 3) := by decide +kernel
theorem dX4_init_34 : decode cX4_init 34 = .ok (.putfield 22, 3) := by decide +kernel
theorem dX4_init_37 : decode cX4_init 37 = .ok (.aload_n 0, 1) := by decide +kernel
theorem dX4_init_38 : decode cX4_init 38 = .ok (.new 26, 3) := by decide +kernel
theorem dX4_init_41 : decode cX4_init 41 = .ok (.dup, 1) := by decide +kernel
theorem dX4_init_42 : decode cX4_init 42 = .ok (.invokespecial 28, 3) := by decide +kernel
theorem dX4_init_45 : decode cX4_init 45 = .ok (.putfield 29, 3) := by decide +kernel
theorem dX4_init_48 : decode cX4_init 48 = .ok (.aload_n 0, 1) := by decide +kernel
theorem dX4_init_49 : decode cX4_init 49 = .ok (.new 33, 3) := by decide +kernel
theorem dX4_init_52 : decode cX4_init 52 = .ok (.dup, 1) := by decide +kernel
theorem dX4_init_53 : decode cX4_init 53 = .ok (.invokespecial 35, 3) := by decide +kernel
theorem dX4_init_56 : decode cX4_init 56 = .ok (.putfield 36, 3) := by decide +kernel
theorem dX4_init_59 : decode cX4_init 59 = .ok (.aload_n 0, 1) := by decide +kernel
theorem dX4_init_60 : decode cX4_init 60 = .ok (.iconst 4, 1) := by decide +kernel
theorem dX4_init_61 : decode cX4_init 61 = .ok (.newarray .long, 2) := by decide +kernel
theorem dX4_init_63 : decode cX4_init 63 = .ok (.putfield 40, 3) := by decide +kernel
theorem dX4_init_66 : decode cX4_init 66 = .ok (.return_, 1) := by decide +kernel
set_option maxRecDepth 20000 in
theorem ggX4_gift_X4_needState : GoodIn wsX4_gift wsX4_needState := goodIn_ca (goodIn_r _ [10, 11, 12, 13, 14, 9, 15] (by decide +kernel) (by decide +kernel)) (goodIn_sub (fun _ h => List.mem_cons_of_mem _ (List.mem_append_right _ h)) (by decide +kernel))
set_option maxRecDepth 20000 in
theorem gX4_gift_X4_needState : GoodIn wsX4_gift (va_wsS RX4 44 yX4_needState wsX4_needState) := goodIn_app (goodIn_of _ (by decide +kernel)) ggX4_gift_X4_needState
set_option maxRecDepth 20000 in
theorem ggX4_gift_X4_isWithin : GoodIn wsX4_gift wsX4_isWithin := goodIn_r _ [15] (by decide +kernel) (by decide +kernel)
set_option maxRecDepth 20000 in
theorem gX4_gift_X4_isWithin : GoodIn wsX4_gift (va_wsS RX4 48 yX4_isWithin wsX4_isWithin) := goodIn_app (goodIn_of _ (by decide +kernel)) ggX4_gift_X4_isWithin
set_option maxRecDepth 20000 in
theorem ggX4_gift_X1_keep : GoodIn wsX4_gift wsX1_keep := goodIn_r _ [20, 21, 22, 23, 24, 25, 19, 26, 27, 28, 29, 30, 31, 32, 33, 34, 35, 36, 37, 38, 39, 40, 41, 42, 43, 44, 45, 46, 47, 48, 49, 50, 51, 85, 86, 73, 74, 75, 76, 77, 78, 79, 80, 81, 82, 83, 84] (by decide +kernel) (by decide +kernel)
set_option maxRecDepth 20000 in
theorem gX4_gift_X1_keep : GoodIn wsX4_gift (wsV RX4 59 RX1 yX1_keep wsX1_keep) := goodIn_app (goodIn_of _ (by decide +kernel)) ggX4_gift_X1_keep
set_option maxRecDepth 20000 in
theorem ggX4_gift_X4_slotOf : GoodIn wsX4_gift wsX4_slotOf := goodIn_r _ [54] (by decide +kernel) (by decide +kernel)
set_option maxRecDepth 20000 in
theorem gX4_gift_X4_slotOf : GoodIn wsX4_gift (va_wsS RX4 63 yX4_slotOf wsX4_slotOf) := goodIn_app (goodIn_of _ (by decide +kernel)) ggX4_gift_X4_slotOf
set_option maxRecDepth 20000 in
theorem ggX4_gift_X4_at : GoodIn wsX4_gift wsX4_at := goodIn_r _ [57] (by decide +kernel) (by decide +kernel)
set_option maxRecDepth 20000 in
theorem gX4_gift_X4_at : GoodIn wsX4_gift (va_wsS RX4 71 yX4_at wsX4_at) := goodIn_app (goodIn_of _ (by decide +kernel)) ggX4_gift_X4_at
set_option maxRecDepth 20000 in
theorem ggX4_gift_X4_store : GoodIn wsX4_gift wsX4_store := goodIn_r _ [60] (by decide +kernel) (by decide +kernel)
set_option maxRecDepth 20000 in
theorem gX4_gift_X4_store : GoodIn wsX4_gift (va_wsS RX4 75 yX4_store wsX4_store) := goodIn_app (goodIn_of _ (by decide +kernel)) ggX4_gift_X4_store
set_option maxRecDepth 20000 in
theorem ggX4_gift_X2_forgetArm : GoodIn wsX4_gift wsX2_forgetArm := goodIn_r _ [65, 66, 87, 88, 89, 90] (by decide +kernel) (by decide +kernel)
set_option maxRecDepth 20000 in
theorem gX4_gift_X2_forgetArm : GoodIn wsX4_gift (wsV RX4 79 RX2 yX2_forgetArm wsX2_forgetArm) := goodIn_app (goodIn_of _ (by decide +kernel)) ggX4_gift_X2_forgetArm
theorem dX4_gift_0 : decode cX4_gift 0 = .ok (.iload_n 1, 1) := by decide +kernel
theorem dX4_gift_1 : decode cX4_gift 1 = .ok (.iload_n 2, 1) := by decide +kernel
theorem dX4_gift_2 : decode cX4_gift 2 = .ok (.invokestatic 44, 3) := by decide +kernel
theorem dX4_gift_5 : decode cX4_gift 5 = .ok (.iload_n 3, 1) := by decide +kernel
theorem dX4_gift_6 : decode cX4_gift 6 = .ok (.iconst 0, 1) := by decide +kernel
theorem dX4_gift_7 : decode cX4_gift 7 = .ok (.bipush 99, 2) := by decide +kernel
theorem dX4_gift_9 : decode cX4_gift 9 = .ok (.invokestatic 48, 3) := by decide +kernel
theorem dX4_gift_12 : decode cX4_gift 12 = .ok (.ifCond .ne 13, 3) := by decide +kernel
theorem dX4_gift_15 : decode cX4_gift 15 = .ok (.new 52, 3) := by decide +kernel
theorem dX4_gift_18 : decode cX4_gift 18 = .ok (.dup, 1) := by decide +kernel
theorem dX4_gift_19 : decode cX4_gift 19 = .ok (.ldc 54, 2) := by decide +kernel
theorem dX4_gift_21 : decode cX4_gift 21 = .ok (.invokespecial 56, 3) := by decide +kernel
theorem dX4_gift_24 : decode cX4_gift 24 = .ok (.athrow, 1) := by decide +kernel
theorem dX4_gift_25 : decode cX4_gift 25 = .ok (.aload_n 0, 1) := by decide +kernel
theorem dX4_gift_26 : decode cX4_gift 26 = .ok (.getfield 22, 3) := by decide +kernel
theorem dX4_gift_29 : decode cX4_gift 29 = .ok (.aload_n 0, 1) := by decide +kernel
theorem dX4_gift_30 : decode cX4_gift 30 = .ok (.getfield 10, 3) := by decide +kernel
theorem dX4_gift_33 : decode cX4_gift 33 = .ok (.invokevirtual 59, 3) := by decide +kernel
theorem dX4_gift_36 : decode cX4_gift 36 = .ok (.iload_n 1, 1) := by decide +kernel
theorem dX4_gift_37 : decode cX4_gift 37 = .ok (.iload_n 2, 1) := by decide +kernel
theorem dX4_gift_38 : decode cX4_gift 38 = .ok (.invokestatic 63, 3) := by decide +kernel
theorem dX4_gift_41 : decode cX4_gift 41 = .ok (.istore 4, 2) := by decide +kernel
theorem dX4_gift_43 : decode cX4_gift 43 = .ok (.aload_n 0, 1) := by decide +kernel
theorem dX4_gift_44 : decode cX4_gift 44 = .ok (.getfield 10, 3) := by decide +kernel
theorem dX4_gift_47 : decode cX4_gift 47 = .ok (.getfield 67, 3) := by decide +kernel
theorem dX4_gift_50 : decode cX4_gift 50 = .ok (.iload 4, 2) := by decide +kernel
theorem dX4_gift_52 : decode cX4_gift 52 = .ok (.invokestatic 71, 3) := by decide +kernel
theorem dX4_gift_55 : decode cX4_gift 55 = .ok (.istore 5, 2) := by decide +kernel
theorem dX4_gift_57 : decode cX4_gift 57 = .ok (.aload_n 0, 1) := by decide +kernel
theorem dX4_gift_58 : decode cX4_gift 58 = .ok (.getfield 10, 3) := by decide +kernel
theorem dX4_gift_61 : decode cX4_gift 61 = .ok (.getfield 67, 3) := by decide +kernel
theorem dX4_gift_64 : decode cX4_gift 64 = .ok (.iload 4, 2) := by decide +kernel
theorem dX4_gift_66 : decode cX4_gift 66 = .ok (.iload_n 3, 1) := by decide +kernel
theorem dX4_gift_67 : decode cX4_gift 67 = .ok (.invokestatic 75, 3) := by decide +kernel
theorem dX4_gift_70 : decode cX4_gift 70 = .ok (.aload_n 0, 1) := by decide +kernel
theorem dX4_gift_71 : decode cX4_gift 71 = .ok (.getfield 29, 3) := by decide +kernel
theorem dX4_gift_74 : decode cX4_gift 74 = .ok (.iload_n 1, 1) := by decide +kernel
theorem dX4_gift_75 : decode cX4_gift 75 = .ok (.invokevirtual 79, 3) := by decide +kernel
theorem dX4_gift_78 : decode cX4_gift 78 = .ok (.iload 5, 2) := by decide +kernel
theorem dX4_gift_80 : decode cX4_gift 80 = .ok (.ireturn, 1) := by decide +kernel
set_option maxRecDepth 20000 in
theorem ggX4_way_X4_needState : GoodIn wsX4_way wsX4_needState := goodIn_ca (goodIn_r _ [12, 13, 14, 15, 16, 11, 17] (by decide +kernel) (by decide +kernel)) (goodIn_sub (fun _ h => List.mem_cons_of_mem _ (List.mem_append_right _ h)) (by decide +kernel))
set_option maxRecDepth 20000 in
theorem gX4_way_X4_needState : GoodIn wsX4_way (va_wsS RX4 44 yX4_needState wsX4_needState) := goodIn_app (goodIn_of _ (by decide +kernel)) ggX4_way_X4_needState
set_option maxRecDepth 20000 in
theorem ggX4_way_X4_isWithin : GoodIn wsX4_way wsX4_isWithin := goodIn_r _ [17] (by decide +kernel) (by decide +kernel)
set_option maxRecDepth 20000 in
theorem gX4_way_X4_isWithin : GoodIn wsX4_way (va_wsS RX4 48 yX4_isWithin wsX4_isWithin) := goodIn_app (goodIn_of _ (by decide +kernel)) ggX4_way_X4_isWithin
set_option maxRecDepth 20000 in
theorem ggX4_way_X1_keep : GoodIn wsX4_way wsX1_keep := goodIn_r _ [22, 23, 24, 25, 26, 27, 21, 28, 29, 30, 31, 32, 33, 34, 35, 36, 37, 38, 39, 40, 41, 42, 43, 44, 45, 46, 47, 48, 49, 50, 51, 52, 53, 87, 88, 75, 76, 77, 78, 79, 80, 81, 82, 83, 84, 85, 86] (by decide +kernel) (by decide +kernel)
set_option maxRecDepth 20000 in
theorem gX4_way_X1_keep : GoodIn wsX4_way (wsV RX4 59 RX1 yX1_keep wsX1_keep) := goodIn_app (goodIn_of _ (by decide +kernel)) ggX4_way_X1_keep
set_option maxRecDepth 20000 in
theorem ggX4_way_X4_slotOf : GoodIn wsX4_way wsX4_slotOf := goodIn_r _ [56] (by decide +kernel) (by decide +kernel)
set_option maxRecDepth 20000 in
theorem gX4_way_X4_slotOf : GoodIn wsX4_way (va_wsS RX4 63 yX4_slotOf wsX4_slotOf) := goodIn_app (goodIn_of _ (by decide +kernel)) ggX4_way_X4_slotOf
set_option maxRecDepth 20000 in
theorem ggX4_way_X4_at : GoodIn wsX4_way wsX4_at := goodIn_r _ [59] (by decide +kernel) (by decide +kernel)
set_option maxRecDepth 20000 in
theorem gX4_way_X4_at : GoodIn wsX4_way (va_wsS RX4 71 yX4_at wsX4_at) := goodIn_app (goodIn_of _ (by decide +kernel)) ggX4_way_X4_at
set_option maxRecDepth 20000 in
theorem ggX4_way_X4_store : GoodIn wsX4_way wsX4_store := goodIn_r _ [62] (by decide +kernel) (by decide +kernel)
set_option maxRecDepth 20000 in
theorem gX4_way_X4_store : GoodIn wsX4_way (va_wsS RX4 75 yX4_store wsX4_store) := goodIn_app (goodIn_of _ (by decide +kernel)) ggX4_way_X4_store
set_option maxRecDepth 20000 in
theorem ggX4_way_X2_forgetArm : GoodIn wsX4_way wsX2_forgetArm := goodIn_r _ [67, 68, 89, 90, 91, 92] (by decide +kernel) (by decide +kernel)
set_option maxRecDepth 20000 in
theorem gX4_way_X2_forgetArm : GoodIn wsX4_way (wsV RX4 79 RX2 yX2_forgetArm wsX2_forgetArm) := goodIn_app (goodIn_of _ (by decide +kernel)) ggX4_way_X2_forgetArm
theorem dX4_way_0 : decode cX4_way 0 = .ok (.iload_n 1, 1) := by decide +kernel
theorem dX4_way_1 : decode cX4_way 1 = .ok (.iload_n 2, 1) := by decide +kernel
theorem dX4_way_2 : decode cX4_way 2 = .ok (.invokestatic 44, 3) := by decide +kernel
theorem dX4_way_5 : decode cX4_way 5 = .ok (.iload_n 1, 1) := by decide +kernel
theorem dX4_way_6 : decode cX4_way 6 = .ok (.iload_n 3, 1) := by decide +kernel
theorem dX4_way_7 : decode cX4_way 7 = .ok (.invokestatic 44, 3) := by decide +kernel
theorem dX4_way_10 : decode cX4_way 10 = .ok (.iload_n 1, 1) := by decide +kernel
theorem dX4_way_11 : decode cX4_way 11 = .ok (.iload 4, 2) := by decide +kernel
theorem dX4_way_13 : decode cX4_way 13 = .ok (.invokestatic 44, 3) := by decide +kernel
theorem dX4_way_16 : decode cX4_way 16 = .ok (.iload 5, 2) := by decide +kernel
theorem dX4_way_18 : decode cX4_way 18 = .ok (.iconst 0, 1) := by decide +kernel
theorem dX4_way_19 : decode cX4_way 19 = .ok (.bipush 8, 2) := by decide +kernel
theorem dX4_way_21 : decode cX4_way 21 = .ok (.invokestatic 48, 3) := by decide +kernel
theorem dX4_way_24 : decode cX4_way 24 = .ok (.ifCond .ne 13, 3) := by decide +kernel
theorem dX4_way_27 : decode cX4_way 27 = .ok (.new 52, 3) := by decide +kernel
theorem dX4_way_30 : decode cX4_way 30 = .ok (.dup, 1) := by decide +kernel
theorem dX4_way_31 : decode cX4_way 31 = .ok (.ldc 83, 2) := by decide +kernel
theorem dX4_way_33 : decode cX4_way 33 = .ok (.invokespecial 56, 3) := by decide +kernel
theorem dX4_way_36 : decode cX4_way 36 = .ok (.athrow, 1) := by decide +kernel
theorem dX4_way_37 : decode cX4_way 37 = .ok (.aload_n 0, 1) := by decide +kernel
theorem dX4_way_38 : decode cX4_way 38 = .ok (.getfield 22, 3) := by decide +kernel
theorem dX4_way_41 : decode cX4_way 41 = .ok (.aload_n 0, 1) := by decide +kernel
theorem dX4_way_42 : decode cX4_way 42 = .ok (.getfield 10, 3) := by decide +kernel
theorem dX4_way_45 : decode cX4_way 45 = .ok (.invokevirtual 59, 3) := by decide +kernel
theorem dX4_way_48 : decode cX4_way 48 = .ok (.iload_n 1, 1) := by decide +kernel
theorem dX4_way_49 : decode cX4_way 49 = .ok (.iload_n 2, 1) := by decide +kernel
theorem dX4_way_50 : decode cX4_way 50 = .ok (.invokestatic 63, 3) := by decide +kernel
theorem dX4_way_53 : decode cX4_way 53 = .ok (.istore 6, 2) := by decide +kernel
theorem dX4_way_55 : decode cX4_way 55 = .ok (.bipush 100, 2) := by decide +kernel
theorem dX4_way_57 : decode cX4_way 57 = .ok (.aload_n 0, 1) := by decide +kernel
theorem dX4_way_58 : decode cX4_way 58 = .ok (.getfield 10, 3) := by decide +kernel
theorem dX4_way_61 : decode cX4_way 61 = .ok (.getfield 85, 3) := by decide +kernel
theorem dX4_way_64 : decode cX4_way 64 = .ok (.iload 6, 2) := by decide +kernel
theorem dX4_way_66 : decode cX4_way 66 = .ok (.invokestatic 71, 3) := by decide +kernel
theorem dX4_way_69 : decode cX4_way 69 = .ok (.imul, 1) := by decide +kernel
theorem dX4_way_70 : decode cX4_way 70 = .ok (.bipush 10, 2) := by decide +kernel
theorem dX4_way_72 : decode cX4_way 72 = .ok (.aload_n 0, 1) := by decide +kernel
theorem dX4_way_73 : decode cX4_way 73 = .ok (.getfield 10, 3) := by decide +kernel
theorem dX4_way_76 : decode cX4_way 76 = .ok (.getfield 88, 3) := by decide +kernel
theorem dX4_way_79 : decode cX4_way 79 = .ok (.iload 6, 2) := by decide +kernel
theorem dX4_way_81 : decode cX4_way 81 = .ok (.invokestatic 71, 3) := by decide +kernel
theorem dX4_way_84 : decode cX4_way 84 = .ok (.imul, 1) := by decide +kernel
theorem dX4_way_85 : decode cX4_way 85 = .ok (.iadd, 1) := by decide +kernel
theorem dX4_way_86 : decode cX4_way 86 = .ok (.aload_n 0, 1) := by decide +kernel
theorem dX4_way_87 : decode cX4_way 87 = .ok (.getfield 10, 3) := by decide +kernel
theorem dX4_way_90 : decode cX4_way 90 = .ok (.getfield 91, 3) := by decide +kernel
theorem dX4_way_93 : decode cX4_way 93 = .ok (.iload 6, 2) := by decide +kernel
theorem dX4_way_95 : decode cX4_way 95 = .ok (.invokestatic 71, 3) := by decide +kernel
theorem dX4_way_98 : decode cX4_way 98 = .ok (.iadd, 1) := by decide +kernel
theorem dX4_way_99 : decode cX4_way 99 = .ok (.istore 7, 2) := by decide +kernel
theorem dX4_way_101 : decode cX4_way 101 = .ok (.aload_n 0, 1) := by decide +kernel
theorem dX4_way_102 : decode cX4_way 102 = .ok (.getfield 10, 3) := by decide +kernel
theorem dX4_way_105 : decode cX4_way 105 = .ok (.getfield 85, 3) := by decide +kernel
theorem dX4_way_108 : decode cX4_way 108 = .ok (.iload 6, 2) := by decide +kernel
theorem dX4_way_110 : decode cX4_way 110 = .ok (.iload_n 3, 1) := by decide +kernel
theorem dX4_way_111 : decode cX4_way 111 = .ok (.invokestatic 75, 3) := by decide +kernel
theorem dX4_way_114 : decode cX4_way 114 = .ok (.aload_n 0, 1) := by decide +kernel
theorem dX4_way_115 : decode cX4_way 115 = .ok (.getfield 10, 3) := by decide +kernel
theorem dX4_way_118 : decode cX4_way 118 = .ok (.getfield 88, 3) := by decide +kernel
theorem dX4_way_121 : decode cX4_way 121 = .ok (.iload 6, 2) := by decide +kernel
theorem dX4_way_123 : decode cX4_way 123 = .ok (.iload 4, 2) := by decide +kernel
theorem dX4_way_125 : decode cX4_way 125 = .ok (.invokestatic 75, 3) := by decide +kernel
theorem dX4_way_128 : decode cX4_way 128 = .ok (.aload_n 0, 1) := by decide +kernel
theorem dX4_way_129 : decode cX4_way 129 = .ok (.getfield 10, 3) := by decide +kernel
theorem dX4_way_132 : decode cX4_way 132 = .ok (.getfield 91, 3) := by decide +kernel
theorem dX4_way_135 : decode cX4_way 135 = .ok (.iload 6, 2) := by decide +kernel
theorem dX4_way_137 : decode cX4_way 137 = .ok (.iload 5, 2) := by decide +kernel
theorem dX4_way_139 : decode cX4_way 139 = .ok (.invokestatic 75, 3) := by decide +kernel
theorem dX4_way_142 : decode cX4_way 142 = .ok (.aload_n 0, 1) := by decide +kernel
theorem dX4_way_143 : decode cX4_way 143 = .ok (.getfield 29, 3) := by decide +kernel
theorem dX4_way_146 : decode cX4_way 146 = .ok (.iload_n 1, 1) := by decide +kernel
theorem dX4_way_147 : decode cX4_way 147 = .ok (.invokevirtual 79, 3) := by decide +kernel
theorem dX4_way_150 : decode cX4_way 150 = .ok (.iload 7, 2) := by decide +kernel
theorem dX4_way_152 : decode cX4_way 152 = .ok (.ireturn, 1) := by decide +kernel
set_option maxRecDepth 20000 in
theorem ggX4_put_X4_needState : GoodIn wsX4_put wsX4_needState := goodIn_ca (goodIn_r _ [7, 8, 9, 10, 11, 6, 12] (by decide +kernel) (by decide +kernel)) (goodIn_sub (fun _ h => List.mem_cons_of_mem _ (List.mem_append_right _ h)) (by decide +kernel))
set_option maxRecDepth 20000 in
theorem gX4_put_X4_needState : GoodIn wsX4_put (va_wsS RX4 44 yX4_needState wsX4_needState) := goodIn_app (goodIn_of _ (by decide +kernel)) ggX4_put_X4_needState
set_option maxRecDepth 20000 in
theorem ggX4_put_X1_keep : GoodIn wsX4_put wsX1_keep := goodIn_r _ [17, 18, 19, 20, 21, 22, 16, 23, 24, 25, 26, 27, 28, 29, 30, 31, 32, 33, 34, 35, 36, 37, 38, 39, 40, 41, 42, 43, 44, 45, 46, 47, 48, 73, 74, 61, 62, 63, 64, 65, 66, 67, 68, 69, 70, 71, 72] (by decide +kernel) (by decide +kernel)
set_option maxRecDepth 20000 in
theorem gX4_put_X1_keep : GoodIn wsX4_put (wsV RX4 59 RX1 yX1_keep wsX1_keep) := goodIn_app (goodIn_of _ (by decide +kernel)) ggX4_put_X1_keep
set_option maxRecDepth 20000 in
theorem ggX4_put_X4_at : GoodIn wsX4_put wsX4_at := goodIn_r _ [51] (by decide +kernel) (by decide +kernel)
set_option maxRecDepth 20000 in
theorem gX4_put_X4_at : GoodIn wsX4_put (va_wsS RX4 71 yX4_at wsX4_at) := goodIn_app (goodIn_of _ (by decide +kernel)) ggX4_put_X4_at
set_option maxRecDepth 20000 in
theorem ggX4_put_X4_store : GoodIn wsX4_put wsX4_store := goodIn_r _ [54] (by decide +kernel) (by decide +kernel)
set_option maxRecDepth 20000 in
theorem gX4_put_X4_store : GoodIn wsX4_put (va_wsS RX4 75 yX4_store wsX4_store) := goodIn_app (goodIn_of _ (by decide +kernel)) ggX4_put_X4_store
theorem dX4_put_0 : decode cX4_put 0 = .ok (.iload_n 1, 1) := by decide +kernel
theorem dX4_put_1 : decode cX4_put 1 = .ok (.iload_n 2, 1) := by decide +kernel
theorem dX4_put_2 : decode cX4_put 2 = .ok (.invokestatic 44, 3) := by decide +kernel
theorem dX4_put_5 : decode cX4_put 5 = .ok (.aload_n 0, 1) := by decide +kernel
theorem dX4_put_6 : decode cX4_put 6 = .ok (.getfield 22, 3) := by decide +kernel
theorem dX4_put_9 : decode cX4_put 9 = .ok (.aload_n 0, 1) := by decide +kernel
theorem dX4_put_10 : decode cX4_put 10 = .ok (.getfield 10, 3) := by decide +kernel
theorem dX4_put_13 : decode cX4_put 13 = .ok (.invokevirtual 59, 3) := by decide +kernel
theorem dX4_put_16 : decode cX4_put 16 = .ok (.aload_n 0, 1) := by decide +kernel
theorem dX4_put_17 : decode cX4_put 17 = .ok (.getfield 10, 3) := by decide +kernel
theorem dX4_put_20 : decode cX4_put 20 = .ok (.getfield 94, 3) := by decide +kernel
theorem dX4_put_23 : decode cX4_put 23 = .ok (.iload_n 1, 1) := by decide +kernel
theorem dX4_put_24 : decode cX4_put 24 = .ok (.invokestatic 71, 3) := by decide +kernel
theorem dX4_put_27 : decode cX4_put 27 = .ok (.istore_n 3, 1) := by decide +kernel
theorem dX4_put_28 : decode cX4_put 28 = .ok (.aload_n 0, 1) := by decide +kernel
theorem dX4_put_29 : decode cX4_put 29 = .ok (.getfield 10, 3) := by decide +kernel
theorem dX4_put_32 : decode cX4_put 32 = .ok (.getfield 94, 3) := by decide +kernel
theorem dX4_put_35 : decode cX4_put 35 = .ok (.iload_n 1, 1) := by decide +kernel
theorem dX4_put_36 : decode cX4_put 36 = .ok (.iload_n 2, 1) := by decide +kernel
theorem dX4_put_37 : decode cX4_put 37 = .ok (.invokestatic 75, 3) := by decide +kernel
theorem dX4_put_40 : decode cX4_put 40 = .ok (.iload_n 3, 1) := by decide +kernel
theorem dX4_put_41 : decode cX4_put 41 = .ok (.ireturn, 1) := by decide +kernel
set_option maxRecDepth 20000 in
theorem ggX4_set_X4_needSetting : GoodIn wsX4_set wsX4_needSetting := goodIn_ca (goodIn_r _ [12, 13, 14, 15, 16, 11, 17] (by decide +kernel) (by decide +kernel)) (goodIn_sub (fun _ h => List.mem_cons_of_mem _ (List.mem_append_right _ h)) (by decide +kernel))
set_option maxRecDepth 20000 in
theorem gX4_set_X4_needSetting : GoodIn wsX4_set (va_wsS RX4 97 yX4_needSetting wsX4_needSetting) := goodIn_app (goodIn_of _ (by decide +kernel)) ggX4_set_X4_needSetting
set_option maxRecDepth 20000 in
theorem ggX4_set_X4_at : GoodIn wsX4_set wsX4_at := goodIn_r _ [20] (by decide +kernel) (by decide +kernel)
set_option maxRecDepth 20000 in
theorem gX4_set_X4_at : GoodIn wsX4_set (va_wsS RX4 71 yX4_at wsX4_at) := goodIn_app (goodIn_of _ (by decide +kernel)) ggX4_set_X4_at
set_option maxRecDepth 20000 in
theorem ggX4_set_X4_isWithin : GoodIn wsX4_set wsX4_isWithin := goodIn_r _ [17] (by decide +kernel) (by decide +kernel)
set_option maxRecDepth 20000 in
theorem gX4_set_X4_isWithin : GoodIn wsX4_set (va_wsS RX4 48 yX4_isWithin wsX4_isWithin) := goodIn_app (goodIn_of _ (by decide +kernel)) ggX4_set_X4_isWithin
set_option maxRecDepth 20000 in
theorem ggX4_set_X1_keep : GoodIn wsX4_set wsX1_keep := goodIn_r _ [25, 26, 27, 28, 29, 30, 24, 31, 32, 33, 34, 35, 36, 37, 38, 39, 40, 41, 42, 43, 44, 45, 46, 47, 48, 49, 50, 51, 52, 53, 54, 55, 56, 84, 85, 72, 73, 74, 75, 76, 77, 78, 79, 80, 81, 82, 83] (by decide +kernel) (by decide +kernel)
set_option maxRecDepth 20000 in
theorem gX4_set_X1_keep : GoodIn wsX4_set (wsV RX4 59 RX1 yX1_keep wsX1_keep) := goodIn_app (goodIn_of _ (by decide +kernel)) ggX4_set_X1_keep
set_option maxRecDepth 20000 in
theorem ggX4_set_X4_store : GoodIn wsX4_set wsX4_store := goodIn_r _ [59] (by decide +kernel) (by decide +kernel)
set_option maxRecDepth 20000 in
theorem gX4_set_X4_store : GoodIn wsX4_set (va_wsS RX4 75 yX4_store wsX4_store) := goodIn_app (goodIn_of _ (by decide +kernel)) ggX4_set_X4_store
set_option maxRecDepth 20000 in
theorem ggX4_set_X2_forgetAll : GoodIn wsX4_set wsX2_forgetAll := goodIn_r _ [64, 65, 86, 87, 88, 89] (by decide +kernel) (by decide +kernel)
set_option maxRecDepth 20000 in
theorem gX4_set_X2_forgetAll : GoodIn wsX4_set (wsV RX4 111 RX2 yX2_forgetAll wsX2_forgetAll) := goodIn_app (goodIn_of _ (by decide +kernel)) ggX4_set_X2_forgetAll
theorem dX4_set_0 : decode cX4_set 0 = .ok (.iload_n 1, 1) := by decide +kernel
theorem dX4_set_1 : decode cX4_set 1 = .ok (.invokestatic 97, 3) := by decide +kernel
theorem dX4_set_4 : decode cX4_set 4 = .ok (.iload_n 2, 1) := by decide +kernel
theorem dX4_set_5 : decode cX4_set 5 = .ok (.getstatic 100, 3) := by decide +kernel
theorem dX4_set_8 : decode cX4_set 8 = .ok (.iload_n 1, 1) := by decide +kernel
theorem dX4_set_9 : decode cX4_set 9 = .ok (.invokestatic 71, 3) := by decide +kernel
theorem dX4_set_12 : decode cX4_set 12 = .ok (.getstatic 103, 3) := by decide +kernel
theorem dX4_set_15 : decode cX4_set 15 = .ok (.iload_n 1, 1) := by decide +kernel
theorem dX4_set_16 : decode cX4_set 16 = .ok (.invokestatic 71, 3) := by decide +kernel
theorem dX4_set_19 : decode cX4_set 19 = .ok (.invokestatic 48, 3) := by decide +kernel
theorem dX4_set_22 : decode cX4_set 22 = .ok (.ifCond .ne 13, 3) := by decide +kernel
theorem dX4_set_25 : decode cX4_set 25 = .ok (.new 52, 3) := by decide +kernel
theorem dX4_set_28 : decode cX4_set 28 = .ok (.dup, 1) := by decide +kernel
theorem dX4_set_29 : decode cX4_set 29 = .ok (.ldc 106, 2) := by decide +kernel
theorem dX4_set_31 : decode cX4_set 31 = .ok (.invokespecial 56, 3) := by decide +kernel
theorem dX4_set_34 : decode cX4_set 34 = .ok (.athrow, 1) := by decide +kernel
theorem dX4_set_35 : decode cX4_set 35 = .ok (.aload_n 0, 1) := by decide +kernel
theorem dX4_set_36 : decode cX4_set 36 = .ok (.getfield 22, 3) := by decide +kernel
theorem dX4_set_39 : decode cX4_set 39 = .ok (.aload_n 0, 1) := by decide +kernel
theorem dX4_set_40 : decode cX4_set 40 = .ok (.getfield 10, 3) := by decide +kernel
theorem dX4_set_43 : decode cX4_set 43 = .ok (.invokevirtual 59, 3) := by decide +kernel
theorem dX4_set_46 : decode cX4_set 46 = .ok (.aload_n 0, 1) := by decide +kernel
theorem dX4_set_47 : decode cX4_set 47 = .ok (.getfield 10, 3) := by decide +kernel
theorem dX4_set_50 : decode cX4_set 50 = .ok (.getfield 108, 3) := by decide +kernel
theorem dX4_set_53 : decode cX4_set 53 = .ok (.iload_n 1, 1) := by decide +kernel
theorem dX4_set_54 : decode cX4_set 54 = .ok (.invokestatic 71, 3) := by decide +kernel
theorem dX4_set_57 : decode cX4_set 57 = .ok (.istore_n 3, 1) := by decide +kernel
theorem dX4_set_58 : decode cX4_set 58 = .ok (.aload_n 0, 1) := by decide +kernel
theorem dX4_set_59 : decode cX4_set 59 = .ok (.getfield 10, 3) := by decide +kernel
theorem dX4_set_62 : decode cX4_set 62 = .ok (.getfield 108, 3) := by decide +kernel
theorem dX4_set_65 : decode cX4_set 65 = .ok (.iload_n 1, 1) := by decide +kernel
theorem dX4_set_66 : decode cX4_set 66 = .ok (.iload_n 2, 1) := by decide +kernel
theorem dX4_set_67 : decode cX4_set 67 = .ok (.invokestatic 75, 3) := by decide +kernel
theorem dX4_set_70 : decode cX4_set 70 = .ok (.aload_n 0, 1) := by decide +kernel
theorem dX4_set_71 : decode cX4_set 71 = .ok (.getfield 29, 3) := by decide +kernel
theorem dX4_set_74 : decode cX4_set 74 = .ok (.invokevirtual 111, 3) := by decide +kernel
theorem dX4_set_77 : decode cX4_set 77 = .ok (.iload_n 3, 1) := by decide +kernel
theorem dX4_set_78 : decode cX4_set 78 = .ok (.ireturn, 1) := by decide +kernel
set_option maxRecDepth 20000 in
theorem ggX4_pull_X4_needArm : GoodIn wsX4_pull wsX4_needArm := goodIn_ca (goodIn_r _ [9, 10, 11, 12, 13, 8, 14] (by decide +kernel) (by decide +kernel)) (goodIn_sub (fun _ h => List.mem_cons_of_mem _ (List.mem_append_right _ h)) (by decide +kernel))
set_option maxRecDepth 20000 in
theorem gX4_pull_X4_needArm : GoodIn wsX4_pull (va_wsS RX4 114 yX4_needArm wsX4_needArm) := goodIn_app (goodIn_of _ (by decide +kernel)) ggX4_pull_X4_needArm
set_option maxRecDepth 20000 in
theorem ggX4_pull_X0_allPulls : GoodIn wsX4_pull wsX0_allPulls := goodIn_r _ [19, 20, 21, 8, 22, 89, 90, 91, 92, 93, 94, 95, 96, 97, 98, 99, 100] (by decide +kernel) (by decide +kernel)
set_option maxRecDepth 20000 in
theorem gX4_pull_X0_allPulls : GoodIn wsX4_pull (wsV RX4 117 RX0 yX0_allPulls wsX0_allPulls) := goodIn_app (goodIn_of _ (by decide +kernel)) ggX4_pull_X0_allPulls
set_option maxRecDepth 20000 in
theorem ggX4_pull_X1_keep : GoodIn wsX4_pull wsX1_keep := goodIn_r _ [27, 28, 29, 30, 31, 32, 26, 33, 34, 35, 36, 37, 38, 39, 40, 18, 41, 42, 43, 44, 45, 46, 47, 48, 49, 50, 20, 51, 52, 53, 54, 55, 56, 101, 102, 89, 90, 91, 92, 93, 94, 95, 96, 97, 98, 99, 100] (by decide +kernel) (by decide +kernel)
set_option maxRecDepth 20000 in
theorem gX4_pull_X1_keep : GoodIn wsX4_pull (wsV RX4 59 RX1 yX1_keep wsX1_keep) := goodIn_app (goodIn_of _ (by decide +kernel)) ggX4_pull_X1_keep
set_option maxRecDepth 20000 in
theorem ggX4_pull_X0_pullOnce : GoodIn wsX4_pull wsX0_pullOnce := goodIn_r _ [60, 61, 42, 50, 51, 52, 54, 55, 62, 63, 53, 20, 21, 8, 22, 64, 65, 66, 67, 68, 18, 69, 70, 71, 72, 73, 74, 75, 76, 77, 78, 79, 56, 80, 81, 49, 47, 48, 89, 90, 91, 92, 93, 94, 95, 96, 97, 98, 99, 100] (by decide +kernel) (by decide +kernel)
set_option maxRecDepth 20000 in
theorem gX4_pull_X0_pullOnce : GoodIn wsX4_pull (wsV RX4 126 RX0 yX0_pullOnce wsX0_pullOnce) := goodIn_app (goodIn_of _ (by decide +kernel)) ggX4_pull_X0_pullOnce
set_option maxRecDepth 20000 in
theorem ggX4_pull_X4_at : GoodIn wsX4_pull wsX4_at := goodIn_r _ [22] (by decide +kernel) (by decide +kernel)
set_option maxRecDepth 20000 in
theorem gX4_pull_X4_at : GoodIn wsX4_pull (va_wsS RX4 71 yX4_at wsX4_at) := goodIn_app (goodIn_of _ (by decide +kernel)) ggX4_pull_X4_at
theorem dX4_pull_0 : decode cX4_pull 0 = .ok (.iload_n 1, 1) := by decide +kernel
theorem dX4_pull_1 : decode cX4_pull 1 = .ok (.invokestatic 114, 3) := by decide +kernel
theorem dX4_pull_4 : decode cX4_pull 4 = .ok (.aload_n 0, 1) := by decide +kernel
theorem dX4_pull_5 : decode cX4_pull 5 = .ok (.getfield 10, 3) := by decide +kernel
theorem dX4_pull_8 : decode cX4_pull 8 = .ok (.invokevirtual 117, 3) := by decide +kernel
theorem dX4_pull_11 : decode cX4_pull 11 = .ok (.sipush 9999, 3) := by decide +kernel
theorem dX4_pull_14 : decode cX4_pull 14 = .ok (.if_icmp .lt 13, 3) := by decide +kernel
theorem dX4_pull_17 : decode cX4_pull 17 = .ok (.new 121, 3) := by decide +kernel
theorem dX4_pull_20 : decode cX4_pull 20 = .ok (.dup, 1) := by decide +kernel
theorem dX4_pull_21 : decode cX4_pull 21 = .ok (.ldc 123, 2) := by decide +kernel
theorem dX4_pull_23 : decode cX4_pull 23 = .ok (.invokespecial 125, 3) := by decide +kernel
theorem dX4_pull_26 : decode cX4_pull 26 = .ok (.athrow, 1) := by decide +kernel
theorem dX4_pull_27 : decode cX4_pull 27 = .ok (.aload_n 0, 1) := by decide +kernel
theorem dX4_pull_28 : decode cX4_pull 28 = .ok (.getfield 22, 3) := by decide +kernel
theorem dX4_pull_31 : decode cX4_pull 31 = .ok (.aload_n 0, 1) := by decide +kernel
theorem dX4_pull_32 : decode cX4_pull 32 = .ok (.getfield 10, 3) := by decide +kernel
theorem dX4_pull_35 : decode cX4_pull 35 = .ok (.invokevirtual 59, 3) := by decide +kernel
theorem dX4_pull_38 : decode cX4_pull 38 = .ok (.aload_n 0, 1) := by decide +kernel
theorem dX4_pull_39 : decode cX4_pull 39 = .ok (.getfield 10, 3) := by decide +kernel
theorem dX4_pull_42 : decode cX4_pull 42 = .ok (.iload_n 1, 1) := by decide +kernel
theorem dX4_pull_43 : decode cX4_pull 43 = .ok (.invokevirtual 126, 3) := by decide +kernel
theorem dX4_pull_46 : decode cX4_pull 46 = .ok (.aload_n 0, 1) := by decide +kernel
theorem dX4_pull_47 : decode cX4_pull 47 = .ok (.getfield 10, 3) := by decide +kernel
theorem dX4_pull_50 : decode cX4_pull 50 = .ok (.getfield 94, 3) := by decide +kernel
theorem dX4_pull_53 : decode cX4_pull 53 = .ok (.iload_n 1, 1) := by decide +kernel
theorem dX4_pull_54 : decode cX4_pull 54 = .ok (.invokestatic 71, 3) := by decide +kernel
theorem dX4_pull_57 : decode cX4_pull 57 = .ok (.ireturn, 1) := by decide +kernel
set_option maxRecDepth 20000 in
theorem ggX4_play_X4_needRule : GoodIn wsX4_play wsX4_needRule := goodIn_ca (goodIn_r _ [10, 11, 12, 13, 14, 9, 15] (by decide +kernel) (by decide +kernel)) (goodIn_sub (fun _ h => List.mem_cons_of_mem _ (List.mem_append_right _ h)) (by decide +kernel))
set_option maxRecDepth 20000 in
theorem gX4_play_X4_needRule : GoodIn wsX4_play (va_wsS RX4 129 yX4_needRule wsX4_needRule) := goodIn_app (goodIn_of _ (by decide +kernel)) ggX4_play_X4_needRule
set_option maxRecDepth 20000 in
theorem ggX4_play_X4_needPulls : GoodIn wsX4_play wsX4_needPulls := goodIn_ca (goodIn_r _ [18, 11, 12, 13, 14, 9, 15] (by decide +kernel) (by decide +kernel)) (goodIn_sub (fun _ h => List.mem_cons_of_mem _ (List.mem_append_right _ h)) (by decide +kernel))
set_option maxRecDepth 20000 in
theorem gX4_play_X4_needPulls : GoodIn wsX4_play (va_wsS RX4 132 yX4_needPulls wsX4_needPulls) := goodIn_app (goodIn_of _ (by decide +kernel)) ggX4_play_X4_needPulls
set_option maxRecDepth 20000 in
theorem ggX4_play_X0_allPulls : GoodIn wsX4_play wsX0_allPulls := goodIn_r _ [23, 24, 25, 9, 26, 164, 165, 166, 167, 168, 169, 170, 171, 172, 173, 174, 175] (by decide +kernel) (by decide +kernel)
set_option maxRecDepth 20000 in
theorem gX4_play_X0_allPulls : GoodIn wsX4_play (wsV RX4 117 RX0 yX0_allPulls wsX0_allPulls) := goodIn_app (goodIn_of _ (by decide +kernel)) ggX4_play_X0_allPulls
set_option maxRecDepth 20000 in
theorem ggX4_play_X1_keep : GoodIn wsX4_play wsX1_keep := goodIn_r _ [31, 32, 33, 34, 35, 36, 30, 37, 38, 39, 40, 41, 42, 43, 44, 22, 45, 46, 47, 48, 49, 50, 51, 52, 53, 54, 24, 55, 56, 57, 58, 59, 60, 176, 177, 164, 165, 166, 167, 168, 169, 170, 171, 172, 173, 174, 175] (by decide +kernel) (by decide +kernel)
set_option maxRecDepth 20000 in
theorem gX4_play_X1_keep : GoodIn wsX4_play (wsV RX4 59 RX1 yX1_keep wsX1_keep) := goodIn_app (goodIn_of _ (by decide +kernel)) ggX4_play_X1_keep
set_option maxRecDepth 20000 in
theorem ggX4_play_X2_refresh : GoodIn wsX4_play wsX2_refresh := goodIn_r _ [65, 66, 67, 68, 9, 69, 70, 71, 72, 64, 73, 74, 25, 26, 75, 76, 77, 78, 79, 80, 81, 82, 83, 84, 85, 86, 87, 88, 89, 90, 91, 92, 93, 94, 95, 96, 97, 98, 99, 100, 101, 102, 103, 104, 105, 106, 107, 178, 179, 180, 181, 164, 165, 166, 167, 168, 169, 170, 171, 172, 173, 174, 175] (by decide +kernel) (by decide +kernel)
set_option maxRecDepth 20000 in
theorem gX4_play_X2_refresh : GoodIn wsX4_play (wsV RX4 137 RX2 yX2_refresh wsX2_refresh) := goodIn_app (goodIn_of _ (by decide +kernel)) ggX4_play_X2_refresh
set_option maxRecDepth 20000 in
theorem ggX4_play_X4_playOn : GoodIn wsX4_play wsX4_playOn := goodIn_r _ [111, 112, 113, 114, 9, 115, 116, 117, 118, 119, 120, 121, 5, 122, 123, 124, 125, 25, 26, 126, 68, 69, 127, 96, 97, 128, 129, 130, 22, 131, 55, 132, 133, 134, 135, 136, 57, 137, 102, 103, 138, 139, 140, 141, 13, 14, 15, 142, 143, 144, 145, 146, 46, 54, 56, 58, 59, 147, 148, 24, 149, 99, 100, 101, 150, 151, 152, 153, 154, 155, 60, 156, 157, 53, 51, 52, 164, 165, 166, 167, 168, 169, 170, 171, 172, 173, 174, 175, 158, 159, 160, 161, 162, 163, 178, 179, 180, 181] (by decide +kernel) (by decide +kernel)
set_option maxRecDepth 20000 in
theorem gX4_play_X4_playOn : GoodIn wsX4_play (wsV RX4 144 RX4 yX4_playOn wsX4_playOn) := goodIn_app (goodIn_of _ (by decide +kernel)) ggX4_play_X4_playOn
theorem dX4_play_0 : decode cX4_play 0 = .ok (.iload_n 1, 1) := by decide +kernel
theorem dX4_play_1 : decode cX4_play 1 = .ok (.invokestatic 129, 3) := by decide +kernel
theorem dX4_play_4 : decode cX4_play 4 = .ok (.iload_n 2, 1) := by decide +kernel
theorem dX4_play_5 : decode cX4_play 5 = .ok (.invokestatic 132, 3) := by decide +kernel
theorem dX4_play_8 : decode cX4_play 8 = .ok (.aload_n 0, 1) := by decide +kernel
theorem dX4_play_9 : decode cX4_play 9 = .ok (.getfield 10, 3) := by decide +kernel
theorem dX4_play_12 : decode cX4_play 12 = .ok (.invokevirtual 117, 3) := by decide +kernel
theorem dX4_play_15 : decode cX4_play 15 = .ok (.iload_n 2, 1) := by decide +kernel
theorem dX4_play_16 : decode cX4_play 16 = .ok (.iadd, 1) := by decide +kernel
theorem dX4_play_17 : decode cX4_play 17 = .ok (.sipush 9999, 3) := by decide +kernel
theorem dX4_play_20 : decode cX4_play 20 = .ok (.if_icmp .le 13, 3) := by decide +kernel
theorem dX4_play_23 : decode cX4_play 23 = .ok (.new 121, 3) := by decide +kernel
theorem dX4_play_26 : decode cX4_play 26 = .ok (.dup, 1) := by decide +kernel
theorem dX4_play_27 : decode cX4_play 27 = .ok (.ldc 135, 2) := by decide +kernel
theorem dX4_play_29 : decode cX4_play 29 = .ok (.invokespecial 125, 3) := by decide +kernel
theorem dX4_play_32 : decode cX4_play 32 = .ok (.athrow, 1) := by decide +kernel
theorem dX4_play_33 : decode cX4_play 33 = .ok (.aload_n 0, 1) := by decide +kernel
theorem dX4_play_34 : decode cX4_play 34 = .ok (.getfield 22, 3) := by decide +kernel
theorem dX4_play_37 : decode cX4_play 37 = .ok (.aload_n 0, 1) := by decide +kernel
theorem dX4_play_38 : decode cX4_play 38 = .ok (.getfield 10, 3) := by decide +kernel
theorem dX4_play_41 : decode cX4_play 41 = .ok (.invokevirtual 59, 3) := by decide +kernel
theorem dX4_play_44 : decode cX4_play 44 = .ok (.aload_n 0, 1) := by decide +kernel
theorem dX4_play_45 : decode cX4_play 45 = .ok (.getfield 29, 3) := by decide +kernel
theorem dX4_play_48 : decode cX4_play 48 = .ok (.aload_n 0, 1) := by decide +kernel
theorem dX4_play_49 : decode cX4_play 49 = .ok (.getfield 10, 3) := by decide +kernel
theorem dX4_play_52 : decode cX4_play 52 = .ok (.invokevirtual 137, 3) := by decide +kernel
theorem dX4_play_55 : decode cX4_play 55 = .ok (.aload_n 0, 1) := by decide +kernel
theorem dX4_play_56 : decode cX4_play 56 = .ok (.getfield 10, 3) := by decide +kernel
theorem dX4_play_59 : decode cX4_play 59 = .ok (.getfield 140, 3) := by decide +kernel
theorem dX4_play_62 : decode cX4_play 62 = .ok (.istore_n 3, 1) := by decide +kernel
theorem dX4_play_63 : decode cX4_play 63 = .ok (.aload_n 0, 1) := by decide +kernel
theorem dX4_play_64 : decode cX4_play 64 = .ok (.aload_n 0, 1) := by decide +kernel
theorem dX4_play_65 : decode cX4_play 65 = .ok (.getfield 10, 3) := by decide +kernel
theorem dX4_play_68 : decode cX4_play 68 = .ok (.iload_n 1, 1) := by decide +kernel
theorem dX4_play_69 : decode cX4_play 69 = .ok (.iload_n 2, 1) := by decide +kernel
theorem dX4_play_70 : decode cX4_play 70 = .ok (.invokevirtual 144, 3) := by decide +kernel
theorem dX4_play_73 : decode cX4_play 73 = .ok (.aload_n 0, 1) := by decide +kernel
theorem dX4_play_74 : decode cX4_play 74 = .ok (.getfield 10, 3) := by decide +kernel
theorem dX4_play_77 : decode cX4_play 77 = .ok (.getfield 140, 3) := by decide +kernel
theorem dX4_play_80 : decode cX4_play 80 = .ok (.iload_n 3, 1) := by decide +kernel
theorem dX4_play_81 : decode cX4_play 81 = .ok (.isub, 1) := by decide +kernel
theorem dX4_play_82 : decode cX4_play 82 = .ok (.ireturn, 1) := by decide +kernel
set_option maxRecDepth 20000 in
theorem ggX4_begin_X1_keep : GoodIn wsX4_begin wsX1_keep := goodIn_r _ [7, 8, 9, 10, 11, 12, 6, 13, 14, 15, 16, 17, 18, 19, 20, 21, 22, 23, 24, 25, 26, 27, 28, 29, 30, 31, 32, 33, 34, 35, 36, 37, 38, 59, 60, 61, 62, 63, 64, 65, 66, 67, 68, 69, 70, 71, 72] (by decide +kernel) (by decide +kernel)
set_option maxRecDepth 20000 in
theorem gX4_begin_X1_keep : GoodIn wsX4_begin (wsV RX4 59 RX1 yX1_keep wsX1_keep) := goodIn_app (goodIn_of _ (by decide +kernel)) ggX4_begin_X1_keep
set_option maxRecDepth 20000 in
theorem ggX4_begin_X0_allPulls : GoodIn wsX4_begin wsX0_allPulls := goodIn_r _ [42, 32, 43, 44, 45, 61, 62, 63, 64, 65, 66, 67, 68, 69, 70, 71, 72] (by decide +kernel) (by decide +kernel)
set_option maxRecDepth 20000 in
theorem gX4_begin_X0_allPulls : GoodIn wsX4_begin (wsV RX4 117 RX0 yX0_allPulls wsX0_allPulls) := goodIn_app (goodIn_of _ (by decide +kernel)) ggX4_begin_X0_allPulls
set_option maxRecDepth 20000 in
theorem ggX4_begin_X0_beginAnew : GoodIn wsX4_begin wsX0_beginAnew := goodIn_r _ [49, 31, 32, 34, 35, 36, 50, 37, 38, 51, 44, 52, 61, 62, 63, 64, 65, 66, 67, 68, 69, 70, 71, 72] (by decide +kernel) (by decide +kernel)
set_option maxRecDepth 20000 in
theorem gX4_begin_X0_beginAnew : GoodIn wsX4_begin (wsV RX4 148 RX0 yX0_beginAnew wsX0_beginAnew) := goodIn_app (goodIn_of _ (by decide +kernel)) ggX4_begin_X0_beginAnew
theorem dX4_begin_0 : decode cX4_begin 0 = .ok (.aload_n 0, 1) := by decide +kernel
theorem dX4_begin_1 : decode cX4_begin 1 = .ok (.getfield 22, 3) := by decide +kernel
theorem dX4_begin_4 : decode cX4_begin 4 = .ok (.aload_n 0, 1) := by decide +kernel
theorem dX4_begin_5 : decode cX4_begin 5 = .ok (.getfield 10, 3) := by decide +kernel
theorem dX4_begin_8 : decode cX4_begin 8 = .ok (.invokevirtual 59, 3) := by decide +kernel
theorem dX4_begin_11 : decode cX4_begin 11 = .ok (.aload_n 0, 1) := by decide +kernel
theorem dX4_begin_12 : decode cX4_begin 12 = .ok (.getfield 10, 3) := by decide +kernel
theorem dX4_begin_15 : decode cX4_begin 15 = .ok (.invokevirtual 117, 3) := by decide +kernel
theorem dX4_begin_18 : decode cX4_begin 18 = .ok (.istore_n 3, 1) := by decide +kernel
theorem dX4_begin_19 : decode cX4_begin 19 = .ok (.aload_n 0, 1) := by decide +kernel
theorem dX4_begin_20 : decode cX4_begin 20 = .ok (.getfield 10, 3) := by decide +kernel
theorem dX4_begin_23 : decode cX4_begin 23 = .ok (.lload_n 1, 1) := by decide +kernel
theorem dX4_begin_24 : decode cX4_begin 24 = .ok (.invokevirtual 148, 3) := by decide +kernel
theorem dX4_begin_27 : decode cX4_begin 27 = .ok (.iload_n 3, 1) := by decide +kernel
theorem dX4_begin_28 : decode cX4_begin 28 = .ok (.ireturn, 1) := by decide +kernel
set_option maxRecDepth 20000 in
theorem ggX4_undo_X1_bringBack : GoodIn wsX4_undo wsX1_bringBack := goodIn_r _ [11, 12, 13, 14, 15, 10, 16, 17, 18, 19, 20, 21, 22, 23, 24, 25, 26, 27, 28, 29, 30, 31, 32, 33, 34, 35, 36, 37, 38, 51, 52, 53, 54, 55, 56, 57, 58, 59, 60, 61, 62, 63, 64] (by decide +kernel) (by decide +kernel)
set_option maxRecDepth 20000 in
theorem gX4_undo_X1_bringBack : GoodIn wsX4_undo (wsV RX4 180 RX1 yX1_bringBack wsX1_bringBack) := goodIn_app (goodIn_of _ (by decide +kernel)) ggX4_undo_X1_bringBack
set_option maxRecDepth 20000 in
theorem ggX4_undo_X2_forgetAll : GoodIn wsX4_undo wsX2_forgetAll := goodIn_r _ [43, 44, 65, 66, 67, 68] (by decide +kernel) (by decide +kernel)
set_option maxRecDepth 20000 in
theorem gX4_undo_X2_forgetAll : GoodIn wsX4_undo (wsV RX4 111 RX2 yX2_forgetAll wsX2_forgetAll) := goodIn_app (goodIn_of _ (by decide +kernel)) ggX4_undo_X2_forgetAll
theorem dX4_undo_0 : decode cX4_undo 0 = .ok (.aload_n 0, 1) := by decide +kernel
theorem dX4_undo_1 : decode cX4_undo 1 = .ok (.getfield 22, 3) := by decide +kernel
theorem dX4_undo_4 : decode cX4_undo 4 = .ok (.getfield 175, 3) := by decide +kernel
theorem dX4_undo_7 : decode cX4_undo 7 = .ok (.ifCond .ne 13, 3) := by decide +kernel
theorem dX4_undo_10 : decode cX4_undo 10 = .ok (.new 121, 3) := by decide +kernel
theorem dX4_undo_13 : decode cX4_undo 13 = .ok (.dup, 1) := by decide +kernel
theorem dX4_undo_14 : decode cX4_undo 14 = .ok (.ldc 178, 2) := by decide +kernel
theorem dX4_undo_16 : decode cX4_undo 16 = .ok (.invokespecial 125, 3) := by decide +kernel
theorem dX4_undo_19 : decode cX4_undo 19 = .ok (.athrow, 1) := by decide +kernel
theorem dX4_undo_20 : decode cX4_undo 20 = .ok (.aload_n 0, 1) := by decide +kernel
theorem dX4_undo_21 : decode cX4_undo 21 = .ok (.getfield 22, 3) := by decide +kernel
theorem dX4_undo_24 : decode cX4_undo 24 = .ok (.aload_n 0, 1) := by decide +kernel
theorem dX4_undo_25 : decode cX4_undo 25 = .ok (.getfield 10, 3) := by decide +kernel
theorem dX4_undo_28 : decode cX4_undo 28 = .ok (.invokevirtual 180, 3) := by decide +kernel
theorem dX4_undo_31 : decode cX4_undo 31 = .ok (.aload_n 0, 1) := by decide +kernel
theorem dX4_undo_32 : decode cX4_undo 32 = .ok (.getfield 29, 3) := by decide +kernel
theorem dX4_undo_35 : decode cX4_undo 35 = .ok (.invokevirtual 111, 3) := by decide +kernel
theorem dX4_undo_38 : decode cX4_undo 38 = .ok (.aload_n 0, 1) := by decide +kernel
theorem dX4_undo_39 : decode cX4_undo 39 = .ok (.getfield 22, 3) := by decide +kernel
theorem dX4_undo_42 : decode cX4_undo 42 = .ok (.getfield 175, 3) := by decide +kernel
theorem dX4_undo_45 : decode cX4_undo 45 = .ok (.ireturn, 1) := by decide +kernel
set_option maxRecDepth 20000 in
theorem ggX4_stateOf_X4_needState : GoodIn wsX4_stateOf wsX4_needState := goodIn_ca (goodIn_r _ [11, 12, 13, 14, 15, 10, 16] (by decide +kernel) (by decide +kernel)) (goodIn_sub (fun _ h => List.mem_cons_of_mem _ (List.mem_append_right _ h)) (by decide +kernel))
set_option maxRecDepth 20000 in
theorem gX4_stateOf_X4_needState : GoodIn wsX4_stateOf (va_wsS RX4 44 yX4_needState wsX4_needState) := goodIn_app (goodIn_of _ (by decide +kernel)) ggX4_stateOf_X4_needState
set_option maxRecDepth 20000 in
theorem ggX4_stateOf_X4_slotOf : GoodIn wsX4_stateOf wsX4_slotOf := goodIn_r _ [19] (by decide +kernel) (by decide +kernel)
set_option maxRecDepth 20000 in
theorem gX4_stateOf_X4_slotOf : GoodIn wsX4_stateOf (va_wsS RX4 63 yX4_slotOf wsX4_slotOf) := goodIn_app (goodIn_of _ (by decide +kernel)) ggX4_stateOf_X4_slotOf
set_option maxRecDepth 20000 in
theorem ggX4_stateOf_X4_at : GoodIn wsX4_stateOf wsX4_at := goodIn_r _ [22] (by decide +kernel) (by decide +kernel)
set_option maxRecDepth 20000 in
theorem gX4_stateOf_X4_at : GoodIn wsX4_stateOf (va_wsS RX4 71 yX4_at wsX4_at) := goodIn_app (goodIn_of _ (by decide +kernel)) ggX4_stateOf_X4_at
set_option maxRecDepth 20000 in
theorem ggX4_stateOf_X4_reachedFrom : GoodIn wsX4_stateOf wsX4_reachedFrom := goodIn_r _ [26, 17, 18, 10, 19, 27, 28, 29, 30, 3, 7, 5, 6, 20, 21, 22, 31, 32, 33, 34, 35, 36, 37, 38, 39, 40, 41, 42, 43, 44, 45, 46, 47, 48] (by decide +kernel) (by decide +kernel)
set_option maxRecDepth 20000 in
theorem gX4_stateOf_X4_reachedFrom : GoodIn wsX4_stateOf (wsV RX4 183 RX4 yX4_reachedFrom wsX4_reachedFrom) := goodIn_app (goodIn_of _ (by decide +kernel)) ggX4_stateOf_X4_reachedFrom
theorem dX4_stateOf_0 : decode cX4_stateOf 0 = .ok (.iload_n 1, 1) := by decide +kernel
theorem dX4_stateOf_1 : decode cX4_stateOf 1 = .ok (.iload_n 2, 1) := by decide +kernel
theorem dX4_stateOf_2 : decode cX4_stateOf 2 = .ok (.invokestatic 44, 3) := by decide +kernel
theorem dX4_stateOf_5 : decode cX4_stateOf 5 = .ok (.iload_n 1, 1) := by decide +kernel
theorem dX4_stateOf_6 : decode cX4_stateOf 6 = .ok (.iload_n 2, 1) := by decide +kernel
theorem dX4_stateOf_7 : decode cX4_stateOf 7 = .ok (.invokestatic 63, 3) := by decide +kernel
theorem dX4_stateOf_10 : decode cX4_stateOf 10 = .ok (.istore 4, 2) := by decide +kernel
theorem dX4_stateOf_12 : decode cX4_stateOf 12 = .ok (.iload_n 3, 1) := by decide +kernel
theorem dX4_stateOf_13 : decode cX4_stateOf 13 = .ok (.tableswitch 94 0 4 #[35, 48, 61, 74, 87], 35) := by decide +kernel
theorem dX4_stateOf_48 : decode cX4_stateOf 48 = .ok (.aload_n 0, 1) := by decide +kernel
theorem dX4_stateOf_49 : decode cX4_stateOf 49 = .ok (.getfield 10, 3) := by decide +kernel
theorem dX4_stateOf_52 : decode cX4_stateOf 52 = .ok (.getfield 67, 3) := by decide +kernel
theorem dX4_stateOf_55 : decode cX4_stateOf 55 = .ok (.iload 4, 2) := by decide +kernel
theorem dX4_stateOf_57 : decode cX4_stateOf 57 = .ok (.invokestatic 71, 3) := by decide +kernel
theorem dX4_stateOf_60 : decode cX4_stateOf 60 = .ok (.ireturn, 1) := by decide +kernel
theorem dX4_stateOf_61 : decode cX4_stateOf 61 = .ok (.aload_n 0, 1) := by decide +kernel
theorem dX4_stateOf_62 : decode cX4_stateOf 62 = .ok (.getfield 10, 3) := by decide +kernel
theorem dX4_stateOf_65 : decode cX4_stateOf 65 = .ok (.getfield 85, 3) := by decide +kernel
theorem dX4_stateOf_68 : decode cX4_stateOf 68 = .ok (.iload 4, 2) := by decide +kernel
theorem dX4_stateOf_70 : decode cX4_stateOf 70 = .ok (.invokestatic 71, 3) := by decide +kernel
theorem dX4_stateOf_73 : decode cX4_stateOf 73 = .ok (.ireturn, 1) := by decide +kernel
theorem dX4_stateOf_74 : decode cX4_stateOf 74 = .ok (.aload_n 0, 1) := by decide +kernel
theorem dX4_stateOf_75 : decode cX4_stateOf 75 = .ok (.getfield 10, 3) := by decide +kernel
theorem dX4_stateOf_78 : decode cX4_stateOf 78 = .ok (.getfield 88, 3) := by decide +kernel
theorem dX4_stateOf_81 : decode cX4_stateOf 81 = .ok (.iload 4, 2) := by decide +kernel
theorem dX4_stateOf_83 : decode cX4_stateOf 83 = .ok (.invokestatic 71, 3) := by decide +kernel
theorem dX4_stateOf_86 : decode cX4_stateOf 86 = .ok (.ireturn, 1) := by decide +kernel
theorem dX4_stateOf_87 : decode cX4_stateOf 87 = .ok (.aload_n 0, 1) := by decide +kernel
theorem dX4_stateOf_88 : decode cX4_stateOf 88 = .ok (.getfield 10, 3) := by decide +kernel
theorem dX4_stateOf_91 : decode cX4_stateOf 91 = .ok (.getfield 91, 3) := by decide +kernel
theorem dX4_stateOf_94 : decode cX4_stateOf 94 = .ok (.iload 4, 2) := by decide +kernel
theorem dX4_stateOf_96 : decode cX4_stateOf 96 = .ok (.invokestatic 71, 3) := by decide +kernel
theorem dX4_stateOf_99 : decode cX4_stateOf 99 = .ok (.ireturn, 1) := by decide +kernel
theorem dX4_stateOf_100 : decode cX4_stateOf 100 = .ok (.aload_n 0, 1) := by decide +kernel
theorem dX4_stateOf_101 : decode cX4_stateOf 101 = .ok (.iload_n 1, 1) := by decide +kernel
theorem dX4_stateOf_102 : decode cX4_stateOf 102 = .ok (.iload_n 2, 1) := by decide +kernel
theorem dX4_stateOf_103 : decode cX4_stateOf 103 = .ok (.invokevirtual 183, 3) := by decide +kernel
theorem dX4_stateOf_106 : decode cX4_stateOf 106 = .ok (.ireturn, 1) := by decide +kernel
theorem dX4_stateOf_107 : decode cX4_stateOf 107 = .ok (.new 52, 3) := by decide +kernel
theorem dX4_stateOf_110 : decode cX4_stateOf 110 = .ok (.dup, 1) := by decide +kernel
theorem dX4_stateOf_111 : decode cX4_stateOf 111 = .ok (.ldc 186, 2) := by decide +kernel
theorem dX4_stateOf_113 : decode cX4_stateOf 113 = .ok (.invokespecial 56, 3) := by decide +kernel
theorem dX4_stateOf_116 : decode cX4_stateOf 116 = .ok (.athrow, 1) := by decide +kernel
set_option maxRecDepth 20000 in
theorem ggX4_index_X4_needState : GoodIn wsX4_index wsX4_needState := goodIn_ca (goodIn_r _ [7, 8, 9, 10, 11, 6, 12] (by decide +kernel) (by decide +kernel)) (goodIn_sub (fun _ h => List.mem_cons_of_mem _ (List.mem_append_right _ h)) (by decide +kernel))
set_option maxRecDepth 20000 in
theorem gX4_index_X4_needState : GoodIn wsX4_index (va_wsS RX4 44 yX4_needState wsX4_needState) := goodIn_app (goodIn_of _ (by decide +kernel)) ggX4_index_X4_needState
set_option maxRecDepth 20000 in
theorem ggX4_index_X2_refresh : GoodIn wsX4_index wsX2_refresh := goodIn_r _ [17, 18, 19, 20, 6, 21, 22, 23, 24, 16, 25, 26, 27, 28, 29, 30, 31, 32, 33, 34, 35, 36, 37, 38, 39, 40, 41, 42, 43, 44, 45, 46, 47, 48, 49, 50, 51, 52, 53, 54, 55, 56, 57, 58, 59, 60, 61, 70, 71, 72, 73, 74, 75, 76, 77, 78, 79, 80, 81, 82, 83, 84, 85] (by decide +kernel) (by decide +kernel)
set_option maxRecDepth 20000 in
theorem gX4_index_X2_refresh : GoodIn wsX4_index (wsV RX4 137 RX2 yX2_refresh wsX2_refresh) := goodIn_app (goodIn_of _ (by decide +kernel)) ggX4_index_X2_refresh
set_option maxRecDepth 20000 in
theorem ggX4_index_X4_slotOf : GoodIn wsX4_index wsX4_slotOf := goodIn_r _ [21] (by decide +kernel) (by decide +kernel)
set_option maxRecDepth 20000 in
theorem gX4_index_X4_slotOf : GoodIn wsX4_index (va_wsS RX4 63 yX4_slotOf wsX4_slotOf) := goodIn_app (goodIn_of _ (by decide +kernel)) ggX4_index_X4_slotOf
set_option maxRecDepth 20000 in
theorem ggX4_index_X4_at_ : GoodIn wsX4_index wsX4_at_ := goodIn_r _ [51] (by decide +kernel) (by decide +kernel)
set_option maxRecDepth 20000 in
theorem gX4_index_X4_at_ : GoodIn wsX4_index (va_wsS RX4 191 yX4_at_ wsX4_at_) := goodIn_app (goodIn_of _ (by decide +kernel)) ggX4_index_X4_at_
theorem dX4_index_0 : decode cX4_index 0 = .ok (.iload_n 1, 1) := by decide +kernel
theorem dX4_index_1 : decode cX4_index 1 = .ok (.iload_n 2, 1) := by decide +kernel
theorem dX4_index_2 : decode cX4_index 2 = .ok (.invokestatic 44, 3) := by decide +kernel
theorem dX4_index_5 : decode cX4_index 5 = .ok (.aload_n 0, 1) := by decide +kernel
theorem dX4_index_6 : decode cX4_index 6 = .ok (.getfield 29, 3) := by decide +kernel
theorem dX4_index_9 : decode cX4_index 9 = .ok (.aload_n 0, 1) := by decide +kernel
theorem dX4_index_10 : decode cX4_index 10 = .ok (.getfield 10, 3) := by decide +kernel
theorem dX4_index_13 : decode cX4_index 13 = .ok (.invokevirtual 137, 3) := by decide +kernel
theorem dX4_index_16 : decode cX4_index 16 = .ok (.aload_n 0, 1) := by decide +kernel
theorem dX4_index_17 : decode cX4_index 17 = .ok (.getfield 29, 3) := by decide +kernel
theorem dX4_index_20 : decode cX4_index 20 = .ok (.getfield 188, 3) := by decide +kernel
theorem dX4_index_23 : decode cX4_index 23 = .ok (.iload_n 1, 1) := by decide +kernel
theorem dX4_index_24 : decode cX4_index 24 = .ok (.iload_n 2, 1) := by decide +kernel
theorem dX4_index_25 : decode cX4_index 25 = .ok (.invokestatic 63, 3) := by decide +kernel
theorem dX4_index_28 : decode cX4_index 28 = .ok (.invokestatic 191, 3) := by decide +kernel
theorem dX4_index_31 : decode cX4_index 31 = .ok (.lreturn, 1) := by decide +kernel
set_option maxRecDepth 20000 in
theorem ggX4_arm_X4_needArm : GoodIn wsX4_arm wsX4_needArm := goodIn_ca (goodIn_r _ [10, 11, 12, 13, 14, 9, 15] (by decide +kernel) (by decide +kernel)) (goodIn_sub (fun _ h => List.mem_cons_of_mem _ (List.mem_append_right _ h)) (by decide +kernel))
set_option maxRecDepth 20000 in
theorem gX4_arm_X4_needArm : GoodIn wsX4_arm (va_wsS RX4 114 yX4_needArm wsX4_needArm) := goodIn_app (goodIn_of _ (by decide +kernel)) ggX4_arm_X4_needArm
set_option maxRecDepth 20000 in
theorem ggX4_arm_X4_at : GoodIn wsX4_arm wsX4_at := goodIn_r _ [18] (by decide +kernel) (by decide +kernel)
set_option maxRecDepth 20000 in
theorem gX4_arm_X4_at : GoodIn wsX4_arm (va_wsS RX4 71 yX4_at wsX4_at) := goodIn_app (goodIn_of _ (by decide +kernel)) ggX4_arm_X4_at
set_option maxRecDepth 20000 in
theorem ggX4_arm_X2_refresh : GoodIn wsX4_arm wsX2_refresh := goodIn_r _ [23, 24, 25, 26, 9, 27, 28, 29, 30, 22, 31, 32, 17, 18, 33, 34, 35, 36, 37, 38, 39, 40, 41, 42, 43, 44, 45, 46, 47, 48, 49, 50, 51, 52, 53, 54, 55, 56, 57, 58, 59, 60, 61, 62, 63, 64, 65, 99, 100, 101, 102, 87, 88, 89, 90, 91, 92, 93, 94, 95, 96, 97, 98] (by decide +kernel) (by decide +kernel)
set_option maxRecDepth 20000 in
theorem gX4_arm_X2_refresh : GoodIn wsX4_arm (wsV RX4 137 RX2 yX2_refresh wsX2_refresh) := goodIn_app (goodIn_of _ (by decide +kernel)) ggX4_arm_X2_refresh
set_option maxRecDepth 20000 in
theorem ggX4_arm_X4_bestState : GoodIn wsX4_arm wsX4_bestState := goodIn_r _ [69, 6, 70, 71, 26, 9, 27, 72, 54, 55, 81, 82, 83, 84, 85, 86, 99, 100, 101, 102] (by decide +kernel) (by decide +kernel)
set_option maxRecDepth 20000 in
theorem gX4_arm_X4_bestState : GoodIn wsX4_arm (wsV RX4 197 RX4 yX4_bestState wsX4_bestState) := goodIn_app (goodIn_of _ (by decide +kernel)) ggX4_arm_X4_bestState
set_option maxRecDepth 20000 in
theorem ggX4_arm_X4_roundsNeeded : GoodIn wsX4_arm wsX4_roundsNeeded := goodIn_r _ [76, 3, 4, 6, 70, 16, 17, 9, 18, 71, 26, 27, 72, 54, 55, 77, 78, 79, 22, 80, 32, 33, 34, 35, 36, 37, 38, 39, 40, 41, 42, 43, 44, 45, 46, 47, 48, 49, 50, 51, 52, 53, 56, 57, 58, 59, 60, 61, 62, 63, 64, 65, 81, 82, 83, 84, 85, 86, 87, 88, 89, 90, 91, 92, 93, 94, 95, 96, 97, 98, 99, 100, 101, 102] (by decide +kernel) (by decide +kernel)
set_option maxRecDepth 20000 in
theorem gX4_arm_X4_roundsNeeded : GoodIn wsX4_arm (wsV RX4 201 RX4 yX4_roundsNeeded wsX4_roundsNeeded) := goodIn_app (goodIn_of _ (by decide +kernel)) ggX4_arm_X4_roundsNeeded
theorem dX4_arm_0 : decode cX4_arm 0 = .ok (.iload_n 1, 1) := by decide +kernel
theorem dX4_arm_1 : decode cX4_arm 1 = .ok (.invokestatic 114, 3) := by decide +kernel
theorem dX4_arm_4 : decode cX4_arm 4 = .ok (.iload_n 2, 1) := by decide +kernel
theorem dX4_arm_5 : decode cX4_arm 5 = .ok (.tableswitch 85 0 3 #[31, 43, 55, 55], 31) := by decide +kernel
theorem dX4_arm_36 : decode cX4_arm 36 = .ok (.aload_n 0, 1) := by decide +kernel
theorem dX4_arm_37 : decode cX4_arm 37 = .ok (.getfield 10, 3) := by decide +kernel
theorem dX4_arm_40 : decode cX4_arm 40 = .ok (.getfield 94, 3) := by decide +kernel
theorem dX4_arm_43 : decode cX4_arm 43 = .ok (.iload_n 1, 1) := by decide +kernel
theorem dX4_arm_44 : decode cX4_arm 44 = .ok (.invokestatic 71, 3) := by decide +kernel
theorem dX4_arm_47 : decode cX4_arm 47 = .ok (.ireturn, 1) := by decide +kernel
theorem dX4_arm_48 : decode cX4_arm 48 = .ok (.aload_n 0, 1) := by decide +kernel
theorem dX4_arm_49 : decode cX4_arm 49 = .ok (.getfield 10, 3) := by decide +kernel
theorem dX4_arm_52 : decode cX4_arm 52 = .ok (.getfield 194, 3) := by decide +kernel
theorem dX4_arm_55 : decode cX4_arm 55 = .ok (.iload_n 1, 1) := by decide +kernel
theorem dX4_arm_56 : decode cX4_arm 56 = .ok (.invokestatic 71, 3) := by decide +kernel
theorem dX4_arm_59 : decode cX4_arm 59 = .ok (.ireturn, 1) := by decide +kernel
theorem dX4_arm_60 : decode cX4_arm 60 = .ok (.aload_n 0, 1) := by decide +kernel
theorem dX4_arm_61 : decode cX4_arm 61 = .ok (.getfield 29, 3) := by decide +kernel
theorem dX4_arm_64 : decode cX4_arm 64 = .ok (.aload_n 0, 1) := by decide +kernel
theorem dX4_arm_65 : decode cX4_arm 65 = .ok (.getfield 10, 3) := by decide +kernel
theorem dX4_arm_68 : decode cX4_arm 68 = .ok (.invokevirtual 137, 3) := by decide +kernel
theorem dX4_arm_71 : decode cX4_arm 71 = .ok (.iload_n 2, 1) := by decide +kernel
theorem dX4_arm_72 : decode cX4_arm 72 = .ok (.iconst 2, 1) := by decide +kernel
theorem dX4_arm_73 : decode cX4_arm 73 = .ok (.if_icmp .ne 11, 3) := by decide +kernel
theorem dX4_arm_76 : decode cX4_arm 76 = .ok (.aload_n 0, 1) := by decide +kernel
theorem dX4_arm_77 : decode cX4_arm 77 = .ok (.iload_n 1, 1) := by decide +kernel
theorem dX4_arm_78 : decode cX4_arm 78 = .ok (.invokevirtual 197, 3) := by decide +kernel
theorem dX4_arm_81 : decode cX4_arm 81 = .ok (.goto 8, 3) := by decide +kernel
theorem dX4_arm_84 : decode cX4_arm 84 = .ok (.aload_n 0, 1) := by decide +kernel
theorem dX4_arm_85 : decode cX4_arm 85 = .ok (.iload_n 1, 1) := by decide +kernel
theorem dX4_arm_86 : decode cX4_arm 86 = .ok (.invokevirtual 201, 3) := by decide +kernel
theorem dX4_arm_89 : decode cX4_arm 89 = .ok (.ireturn, 1) := by decide +kernel
theorem dX4_arm_90 : decode cX4_arm 90 = .ok (.new 52, 3) := by decide +kernel
theorem dX4_arm_93 : decode cX4_arm 93 = .ok (.dup, 1) := by decide +kernel
theorem dX4_arm_94 : decode cX4_arm 94 = .ok (.ldc 204, 2) := by decide +kernel
theorem dX4_arm_96 : decode cX4_arm 96 = .ok (.invokespecial 56, 3) := by decide +kernel
theorem dX4_arm_99 : decode cX4_arm 99 = .ok (.athrow, 1) := by decide +kernel
set_option maxRecDepth 20000 in
theorem ggX4_count_X0_allPulls : GoodIn wsX4_count wsX0_allPulls := goodIn_r _ [12, 13, 14, 15, 16, 23, 24, 25, 26, 27, 28, 29, 30, 31, 32, 33, 34] (by decide +kernel) (by decide +kernel)
set_option maxRecDepth 20000 in
theorem gX4_count_X0_allPulls : GoodIn wsX4_count (wsV RX4 117 RX0 yX0_allPulls wsX0_allPulls) := goodIn_app (goodIn_of _ (by decide +kernel)) ggX4_count_X0_allPulls
theorem dX4_count_0 : decode cX4_count 0 = .ok (.iload_n 1, 1) := by decide +kernel
theorem dX4_count_1 : decode cX4_count 1 = .ok (.tableswitch 63 0 3 #[31, 39, 47, 55], 31) := by decide +kernel
theorem dX4_count_32 : decode cX4_count 32 = .ok (.aload_n 0, 1) := by decide +kernel
theorem dX4_count_33 : decode cX4_count 33 = .ok (.getfield 10, 3) := by decide +kernel
theorem dX4_count_36 : decode cX4_count 36 = .ok (.invokevirtual 117, 3) := by decide +kernel
theorem dX4_count_39 : decode cX4_count 39 = .ok (.ireturn, 1) := by decide +kernel
theorem dX4_count_40 : decode cX4_count 40 = .ok (.aload_n 0, 1) := by decide +kernel
theorem dX4_count_41 : decode cX4_count 41 = .ok (.getfield 10, 3) := by decide +kernel
theorem dX4_count_44 : decode cX4_count 44 = .ok (.getfield 140, 3) := by decide +kernel
theorem dX4_count_47 : decode cX4_count 47 = .ok (.ireturn, 1) := by decide +kernel
theorem dX4_count_48 : decode cX4_count 48 = .ok (.aload_n 0, 1) := by decide +kernel
theorem dX4_count_49 : decode cX4_count 49 = .ok (.getfield 10, 3) := by decide +kernel
theorem dX4_count_52 : decode cX4_count 52 = .ok (.getfield 206, 3) := by decide +kernel
theorem dX4_count_55 : decode cX4_count 55 = .ok (.ireturn, 1) := by decide +kernel
theorem dX4_count_56 : decode cX4_count 56 = .ok (.aload_n 0, 1) := by decide +kernel
theorem dX4_count_57 : decode cX4_count 57 = .ok (.getfield 22, 3) := by decide +kernel
theorem dX4_count_60 : decode cX4_count 60 = .ok (.getfield 175, 3) := by decide +kernel
theorem dX4_count_63 : decode cX4_count 63 = .ok (.ireturn, 1) := by decide +kernel
theorem dX4_count_64 : decode cX4_count 64 = .ok (.new 52, 3) := by decide +kernel
theorem dX4_count_67 : decode cX4_count 67 = .ok (.dup, 1) := by decide +kernel
theorem dX4_count_68 : decode cX4_count 68 = .ok (.ldc 209, 2) := by decide +kernel
theorem dX4_count_70 : decode cX4_count 70 = .ok (.invokespecial 56, 3) := by decide +kernel
theorem dX4_count_73 : decode cX4_count 73 = .ok (.athrow, 1) := by decide +kernel
theorem dX4_sum_0 : decode cX4_sum 0 = .ok (.iload_n 1, 1) := by decide +kernel
theorem dX4_sum_1 : decode cX4_sum 1 = .ok (.tableswitch 51 0 2 #[27, 35, 43], 27) := by decide +kernel
theorem dX4_sum_28 : decode cX4_sum 28 = .ok (.aload_n 0, 1) := by decide +kernel
theorem dX4_sum_29 : decode cX4_sum 29 = .ok (.getfield 10, 3) := by decide +kernel
theorem dX4_sum_32 : decode cX4_sum 32 = .ok (.getfield 211, 3) := by decide +kernel
theorem dX4_sum_35 : decode cX4_sum 35 = .ok (.lreturn, 1) := by decide +kernel
theorem dX4_sum_36 : decode cX4_sum 36 = .ok (.aload_n 0, 1) := by decide +kernel
theorem dX4_sum_37 : decode cX4_sum 37 = .ok (.getfield 10, 3) := by decide +kernel
theorem dX4_sum_40 : decode cX4_sum 40 = .ok (.getfield 215, 3) := by decide +kernel
theorem dX4_sum_43 : decode cX4_sum 43 = .ok (.lreturn, 1) := by decide +kernel
theorem dX4_sum_44 : decode cX4_sum 44 = .ok (.aload_n 0, 1) := by decide +kernel
theorem dX4_sum_45 : decode cX4_sum 45 = .ok (.getfield 10, 3) := by decide +kernel
theorem dX4_sum_48 : decode cX4_sum 48 = .ok (.getfield 218, 3) := by decide +kernel
theorem dX4_sum_51 : decode cX4_sum 51 = .ok (.lreturn, 1) := by decide +kernel
theorem dX4_sum_52 : decode cX4_sum 52 = .ok (.new 52, 3) := by decide +kernel
theorem dX4_sum_55 : decode cX4_sum 55 = .ok (.dup, 1) := by decide +kernel
theorem dX4_sum_56 : decode cX4_sum 56 = .ok (.ldc 221, 2) := by decide +kernel
theorem dX4_sum_58 : decode cX4_sum 58 = .ok (.invokespecial 56, 3) := by decide +kernel
theorem dX4_sum_61 : decode cX4_sum 61 = .ok (.athrow, 1) := by decide +kernel
set_option maxRecDepth 20000 in
theorem ggX4_setting_X4_needSetting : GoodIn wsX4_setting wsX4_needSetting := goodIn_ca (goodIn_r _ [6, 7, 8, 9, 10, 5, 11] (by decide +kernel) (by decide +kernel)) (goodIn_sub (fun _ h => List.mem_cons_of_mem _ (List.mem_append_right _ h)) (by decide +kernel))
set_option maxRecDepth 20000 in
theorem gX4_setting_X4_needSetting : GoodIn wsX4_setting (va_wsS RX4 97 yX4_needSetting wsX4_needSetting) := goodIn_app (goodIn_of _ (by decide +kernel)) ggX4_setting_X4_needSetting
set_option maxRecDepth 20000 in
theorem ggX4_setting_X4_at : GoodIn wsX4_setting wsX4_at := goodIn_r _ [14] (by decide +kernel) (by decide +kernel)
set_option maxRecDepth 20000 in
theorem gX4_setting_X4_at : GoodIn wsX4_setting (va_wsS RX4 71 yX4_at wsX4_at) := goodIn_app (goodIn_of _ (by decide +kernel)) ggX4_setting_X4_at
theorem dX4_setting_0 : decode cX4_setting 0 = .ok (.iload_n 1, 1) := by decide +kernel
theorem dX4_setting_1 : decode cX4_setting 1 = .ok (.invokestatic 97, 3) := by decide +kernel
theorem dX4_setting_4 : decode cX4_setting 4 = .ok (.aload_n 0, 1) := by decide +kernel
theorem dX4_setting_5 : decode cX4_setting 5 = .ok (.getfield 10, 3) := by decide +kernel
theorem dX4_setting_8 : decode cX4_setting 8 = .ok (.getfield 108, 3) := by decide +kernel
theorem dX4_setting_11 : decode cX4_setting 11 = .ok (.iload_n 1, 1) := by decide +kernel
theorem dX4_setting_12 : decode cX4_setting 12 = .ok (.invokestatic 71, 3) := by decide +kernel
theorem dX4_setting_15 : decode cX4_setting 15 = .ok (.ireturn, 1) := by decide +kernel
set_option maxRecDepth 20000 in
theorem ggX4_choice_X4_needRule : GoodIn wsX4_choice wsX4_needRule := goodIn_ca (goodIn_r _ [6, 7, 8, 9, 10, 5, 11] (by decide +kernel) (by decide +kernel)) (goodIn_sub (fun _ h => List.mem_cons_of_mem _ (List.mem_append_right _ h)) (by decide +kernel))
set_option maxRecDepth 20000 in
theorem gX4_choice_X4_needRule : GoodIn wsX4_choice (va_wsS RX4 129 yX4_needRule wsX4_needRule) := goodIn_app (goodIn_of _ (by decide +kernel)) ggX4_choice_X4_needRule
set_option maxRecDepth 20000 in
theorem ggX4_choice_X2_refresh : GoodIn wsX4_choice wsX2_refresh := goodIn_r _ [16, 17, 18, 19, 5, 20, 21, 22, 23, 15, 24, 25, 26, 27, 28, 29, 30, 31, 32, 33, 34, 35, 36, 37, 38, 39, 40, 41, 42, 43, 44, 45, 46, 47, 48, 49, 50, 51, 52, 53, 54, 55, 56, 57, 58, 59, 60, 100, 101, 102, 103, 104, 105, 106, 107, 108, 109, 110, 111, 112, 113, 114, 115] (by decide +kernel) (by decide +kernel)
set_option maxRecDepth 20000 in
theorem gX4_choice_X2_refresh : GoodIn wsX4_choice (wsV RX4 137 RX2 yX2_refresh wsX2_refresh) := goodIn_app (goodIn_of _ (by decide +kernel)) ggX4_choice_X2_refresh
set_option maxRecDepth 20000 in
theorem ggX4_choice_X4_chosenBy : GoodIn wsX4_choice wsX4_chosenBy := goodIn_r _ [64, 65, 66, 67, 68, 5, 69, 70, 1, 71, 72, 73, 74, 26, 27, 75, 19, 20, 76, 49, 50, 77, 78, 79, 80, 81, 82, 83, 84, 85, 86, 87, 88, 89, 55, 56, 90, 91, 92, 93, 9, 10, 11, 104, 105, 106, 107, 108, 109, 110, 111, 112, 113, 114, 115, 94, 95, 96, 97, 98, 99, 100, 101, 102, 103] (by decide +kernel) (by decide +kernel)
set_option maxRecDepth 20000 in
theorem gX4_choice_X4_chosenBy : GoodIn wsX4_choice (wsV RX4 223 RX4 yX4_chosenBy wsX4_chosenBy) := goodIn_app (goodIn_of _ (by decide +kernel)) ggX4_choice_X4_chosenBy
theorem dX4_choice_0 : decode cX4_choice 0 = .ok (.iload_n 1, 1) := by decide +kernel
theorem dX4_choice_1 : decode cX4_choice 1 = .ok (.invokestatic 129, 3) := by decide +kernel
theorem dX4_choice_4 : decode cX4_choice 4 = .ok (.aload_n 0, 1) := by decide +kernel
theorem dX4_choice_5 : decode cX4_choice 5 = .ok (.getfield 29, 3) := by decide +kernel
theorem dX4_choice_8 : decode cX4_choice 8 = .ok (.aload_n 0, 1) := by decide +kernel
theorem dX4_choice_9 : decode cX4_choice 9 = .ok (.getfield 10, 3) := by decide +kernel
theorem dX4_choice_12 : decode cX4_choice 12 = .ok (.invokevirtual 137, 3) := by decide +kernel
theorem dX4_choice_15 : decode cX4_choice 15 = .ok (.aload_n 0, 1) := by decide +kernel
theorem dX4_choice_16 : decode cX4_choice 16 = .ok (.aload_n 0, 1) := by decide +kernel
theorem dX4_choice_17 : decode cX4_choice 17 = .ok (.getfield 10, 3) := by decide +kernel
theorem dX4_choice_20 : decode cX4_choice 20 = .ok (.iload_n 1, 1) := by decide +kernel
theorem dX4_choice_21 : decode cX4_choice 21 = .ok (.invokevirtual 223, 3) := by decide +kernel
theorem dX4_choice_24 : decode cX4_choice 24 = .ok (.ireturn, 1) := by decide +kernel
set_option maxRecDepth 20000 in
theorem ggX4_ifPlayed_X4_needRule : GoodIn wsX4_ifPlayed wsX4_needRule := goodIn_ca (goodIn_r _ [4, 5, 6, 7, 8, 3, 9] (by decide +kernel) (by decide +kernel)) (goodIn_sub (fun _ h => List.mem_cons_of_mem _ (List.mem_append_right _ h)) (by decide +kernel))
set_option maxRecDepth 20000 in
theorem gX4_ifPlayed_X4_needRule : GoodIn wsX4_ifPlayed (va_wsS RX4 129 yX4_needRule wsX4_needRule) := goodIn_app (goodIn_of _ (by decide +kernel)) ggX4_ifPlayed_X4_needRule
set_option maxRecDepth 20000 in
theorem ggX4_ifPlayed_X4_needPulls : GoodIn wsX4_ifPlayed wsX4_needPulls := goodIn_ca (goodIn_r _ [12, 5, 6, 7, 8, 3, 9] (by decide +kernel) (by decide +kernel)) (goodIn_sub (fun _ h => List.mem_cons_of_mem _ (List.mem_append_right _ h)) (by decide +kernel))
set_option maxRecDepth 20000 in
theorem gX4_ifPlayed_X4_needPulls : GoodIn wsX4_ifPlayed (va_wsS RX4 132 yX4_needPulls wsX4_needPulls) := goodIn_app (goodIn_of _ (by decide +kernel)) ggX4_ifPlayed_X4_needPulls
set_option maxRecDepth 20000 in
theorem ggX4_ifPlayed_X4_gain : GoodIn wsX4_ifPlayed wsX4_gain := goodIn_r _ [16, 17, 18, 19, 20, 21, 22, 23, 24, 25, 26, 27, 28, 3, 29, 30, 31, 32, 33, 34, 35, 36, 37, 38, 39, 40, 41, 42, 43, 44, 45, 46, 47, 48, 49, 50, 51, 52, 53, 54, 55, 56, 57, 58, 59, 60, 61, 62, 63, 64, 65, 66, 67, 68, 69, 70, 71, 72, 73, 74, 75, 76, 77, 78, 79, 80, 81, 82, 83, 84, 85, 86, 87, 88, 89, 90, 91, 92, 93, 94, 95, 96, 97, 98, 99, 100, 101, 102, 103, 104, 105, 106, 107, 108, 109, 110, 111, 112, 113, 114, 115, 116, 117, 118, 119, 120, 121, 122, 123, 124, 7, 8, 9, 125, 126, 127, 128, 129, 130, 131, 132, 133, 134, 135, 136, 137, 138, 139, 140, 141, 142, 143, 144, 145, 146, 147, 148, 149, 150, 151, 152, 153, 154, 155, 156, 157, 158, 159, 160, 161, 162] (by decide +kernel) (by decide +kernel)
set_option maxRecDepth 20000 in
theorem gX4_ifPlayed_X4_gain : GoodIn wsX4_ifPlayed (wsV RX4 227 RX4 yX4_gain wsX4_gain) := goodIn_app (goodIn_of _ (by decide +kernel)) ggX4_ifPlayed_X4_gain
theorem dX4_ifPlayed_0 : decode cX4_ifPlayed 0 = .ok (.iload_n 1, 1) := by decide +kernel
theorem dX4_ifPlayed_1 : decode cX4_ifPlayed 1 = .ok (.invokestatic 129, 3) := by decide +kernel
theorem dX4_ifPlayed_4 : decode cX4_ifPlayed 4 = .ok (.iload_n 2, 1) := by decide +kernel
theorem dX4_ifPlayed_5 : decode cX4_ifPlayed 5 = .ok (.invokestatic 132, 3) := by decide +kernel
theorem dX4_ifPlayed_8 : decode cX4_ifPlayed 8 = .ok (.aload_n 0, 1) := by decide +kernel
theorem dX4_ifPlayed_9 : decode cX4_ifPlayed 9 = .ok (.iload_n 1, 1) := by decide +kernel
theorem dX4_ifPlayed_10 : decode cX4_ifPlayed 10 = .ok (.iload_n 2, 1) := by decide +kernel
theorem dX4_ifPlayed_11 : decode cX4_ifPlayed 11 = .ok (.invokevirtual 227, 3) := by decide +kernel
theorem dX4_ifPlayed_14 : decode cX4_ifPlayed 14 = .ok (.lreturn, 1) := by decide +kernel
set_option maxRecDepth 20000 in
theorem ggX4_giftFor_X4_needState : GoodIn wsX4_giftFor wsX4_needState := goodIn_ca (goodIn_r _ [7, 8, 9, 10, 11, 6, 12] (by decide +kernel) (by decide +kernel)) (goodIn_sub (fun _ h => List.mem_cons_of_mem _ (List.mem_append_right _ h)) (by decide +kernel))
set_option maxRecDepth 20000 in
theorem gX4_giftFor_X4_needState : GoodIn wsX4_giftFor (va_wsS RX4 44 yX4_needState wsX4_needState) := goodIn_app (goodIn_of _ (by decide +kernel)) ggX4_giftFor_X4_needState
set_option maxRecDepth 20000 in
theorem ggX4_giftFor_X2_refresh : GoodIn wsX4_giftFor wsX2_refresh := goodIn_r _ [17, 18, 19, 20, 6, 21, 22, 23, 24, 16, 25, 26, 27, 28, 29, 30, 31, 32, 33, 34, 35, 36, 37, 38, 39, 40, 41, 42, 43, 44, 45, 46, 47, 48, 49, 50, 51, 52, 53, 54, 55, 56, 57, 58, 59, 60, 61, 123, 124, 125, 126, 127, 128, 129, 130, 131, 132, 133, 134, 135, 136, 137, 138] (by decide +kernel) (by decide +kernel)
set_option maxRecDepth 20000 in
theorem gX4_giftFor_X2_refresh : GoodIn wsX4_giftFor (wsV RX4 137 RX2 yX2_refresh wsX2_refresh) := goodIn_app (goodIn_of _ (by decide +kernel)) ggX4_giftFor_X2_refresh
set_option maxRecDepth 20000 in
theorem ggX4_giftFor_X0_copy : GoodIn wsX4_giftFor wsX0_copy := goodIn_r _ [66, 67, 68, 69, 70, 71, 72, 73, 74, 75, 76, 77, 78, 79, 80, 81, 82, 127, 128, 129, 130, 131, 132, 133, 134, 135, 136, 137, 138] (by decide +kernel) (by decide +kernel)
set_option maxRecDepth 20000 in
theorem gX4_giftFor_X0_copy : GoodIn wsX4_giftFor (wsV RX4 231 RX0 yX0_copy wsX0_copy) := goodIn_app (goodIn_of _ (by decide +kernel)) ggX4_giftFor_X0_copy
set_option maxRecDepth 20000 in
theorem ggX4_giftFor_X4_scoreAll : GoodIn wsX4_giftFor wsX4_scoreAll := goodIn_r _ [86, 87, 1, 88, 89, 90, 91, 27, 6, 28, 92, 20, 21, 93, 50, 51, 94, 95, 96, 65, 97, 77, 98, 99, 100, 101, 102, 79, 103, 56, 57, 127, 128, 129, 130, 131, 132, 133, 134, 135, 136, 137, 138, 117, 118, 119, 120, 121, 122, 123, 124, 125, 126] (by decide +kernel) (by decide +kernel)
set_option maxRecDepth 20000 in
theorem gX4_giftFor_X4_scoreAll : GoodIn wsX4_giftFor (wsV RX4 234 RX4 yX4_scoreAll wsX4_scoreAll) := goodIn_app (goodIn_of _ (by decide +kernel)) ggX4_giftFor_X4_scoreAll
set_option maxRecDepth 20000 in
theorem ggX4_giftFor_X4_wouldChoose : GoodIn wsX4_giftFor wsX4_wouldChoose := goodIn_r _ [107, 3, 89, 1, 90, 108, 92, 20, 6, 21, 109, 110, 111, 112, 23, 24, 16, 25, 26, 27, 28, 29, 30, 31, 32, 33, 34, 35, 36, 37, 38, 39, 40, 41, 42, 43, 44, 45, 46, 47, 48, 49, 50, 51, 52, 53, 54, 55, 56, 57, 58, 59, 60, 61, 94, 95, 96, 65, 97, 77, 98, 99, 100, 101, 102, 79, 103, 113, 114, 115, 116, 10, 11, 12, 93, 117, 118, 119, 120, 121, 122, 127, 128, 129, 130, 131, 132, 133, 134, 135, 136, 137, 138, 123, 124, 125, 126] (by decide +kernel) (by decide +kernel)
set_option maxRecDepth 20000 in
theorem gX4_giftFor_X4_wouldChoose : GoodIn wsX4_giftFor (wsV RX4 238 RX4 yX4_wouldChoose wsX4_wouldChoose) := goodIn_app (goodIn_of _ (by decide +kernel)) ggX4_giftFor_X4_wouldChoose
theorem dX4_giftFor_0 : decode cX4_giftFor 0 = .ok (.iload_n 1, 1) := by decide +kernel
theorem dX4_giftFor_1 : decode cX4_giftFor 1 = .ok (.iload_n 2, 1) := by decide +kernel
theorem dX4_giftFor_2 : decode cX4_giftFor 2 = .ok (.invokestatic 44, 3) := by decide +kernel
theorem dX4_giftFor_5 : decode cX4_giftFor 5 = .ok (.aload_n 0, 1) := by decide +kernel
theorem dX4_giftFor_6 : decode cX4_giftFor 6 = .ok (.getfield 29, 3) := by decide +kernel
theorem dX4_giftFor_9 : decode cX4_giftFor 9 = .ok (.aload_n 0, 1) := by decide +kernel
theorem dX4_giftFor_10 : decode cX4_giftFor 10 = .ok (.getfield 10, 3) := by decide +kernel
theorem dX4_giftFor_13 : decode cX4_giftFor 13 = .ok (.invokevirtual 137, 3) := by decide +kernel
theorem dX4_giftFor_16 : decode cX4_giftFor 16 = .ok (.aload_n 0, 1) := by decide +kernel
theorem dX4_giftFor_17 : decode cX4_giftFor 17 = .ok (.getfield 16, 3) := by decide +kernel
theorem dX4_giftFor_20 : decode cX4_giftFor 20 = .ok (.aload_n 0, 1) := by decide +kernel
theorem dX4_giftFor_21 : decode cX4_giftFor 21 = .ok (.getfield 10, 3) := by decide +kernel
theorem dX4_giftFor_24 : decode cX4_giftFor 24 = .ok (.invokevirtual 231, 3) := by decide +kernel
theorem dX4_giftFor_27 : decode cX4_giftFor 27 = .ok (.aload_n 0, 1) := by decide +kernel
theorem dX4_giftFor_28 : decode cX4_giftFor 28 = .ok (.aload_n 0, 1) := by decide +kernel
theorem dX4_giftFor_29 : decode cX4_giftFor 29 = .ok (.getfield 16, 3) := by decide +kernel
theorem dX4_giftFor_32 : decode cX4_giftFor 32 = .ok (.iconst 0, 1) := by decide +kernel
theorem dX4_giftFor_33 : decode cX4_giftFor 33 = .ok (.invokevirtual 234, 3) := by decide +kernel
theorem dX4_giftFor_36 : decode cX4_giftFor 36 = .ok (.iconst 0, 1) := by decide +kernel
theorem dX4_giftFor_37 : decode cX4_giftFor 37 = .ok (.istore_n 3, 1) := by decide +kernel
theorem dX4_giftFor_38 : decode cX4_giftFor 38 = .ok (.bipush 100, 2) := by decide +kernel
theorem dX4_giftFor_40 : decode cX4_giftFor 40 = .ok (.istore 4, 2) := by decide +kernel
theorem dX4_giftFor_42 : decode cX4_giftFor 42 = .ok (.iconst 0, 1) := by decide +kernel
theorem dX4_giftFor_43 : decode cX4_giftFor 43 = .ok (.istore 5, 2) := by decide +kernel
theorem dX4_giftFor_45 : decode cX4_giftFor 45 = .ok (.iload 5, 2) := by decide +kernel
theorem dX4_giftFor_47 : decode cX4_giftFor 47 = .ok (.bipush 7, 2) := by decide +kernel
theorem dX4_giftFor_49 : decode cX4_giftFor 49 = .ok (.if_icmp .ge 46, 3) := by decide +kernel
theorem dX4_giftFor_52 : decode cX4_giftFor 52 = .ok (.iload_n 3, 1) := by decide +kernel
theorem dX4_giftFor_53 : decode cX4_giftFor 53 = .ok (.iload 4, 2) := by decide +kernel
theorem dX4_giftFor_55 : decode cX4_giftFor 55 = .ok (.if_icmp .ge 40, 3) := by decide +kernel
theorem dX4_giftFor_58 : decode cX4_giftFor 58 = .ok (.iload_n 3, 1) := by decide +kernel
theorem dX4_giftFor_59 : decode cX4_giftFor 59 = .ok (.iload 4, 2) := by decide +kernel
theorem dX4_giftFor_61 : decode cX4_giftFor 61 = .ok (.iadd, 1) := by decide +kernel
theorem dX4_giftFor_62 : decode cX4_giftFor 62 = .ok (.iconst 2, 1) := by decide +kernel
theorem dX4_giftFor_63 : decode cX4_giftFor 63 = .ok (.idiv, 1) := by decide +kernel
theorem dX4_giftFor_64 : decode cX4_giftFor 64 = .ok (.istore 6, 2) := by decide +kernel
theorem dX4_giftFor_66 : decode cX4_giftFor 66 = .ok (.aload_n 0, 1) := by decide +kernel
theorem dX4_giftFor_67 : decode cX4_giftFor 67 = .ok (.iload_n 1, 1) := by decide +kernel
theorem dX4_giftFor_68 : decode cX4_giftFor 68 = .ok (.iload_n 2, 1) := by decide +kernel
theorem dX4_giftFor_69 : decode cX4_giftFor 69 = .ok (.iload 6, 2) := by decide +kernel
theorem dX4_giftFor_71 : decode cX4_giftFor 71 = .ok (.invokevirtual 238, 3) := by decide +kernel
theorem dX4_giftFor_74 : decode cX4_giftFor 74 = .ok (.ifCond .eq 10, 3) := by decide +kernel
theorem dX4_giftFor_77 : decode cX4_giftFor 77 = .ok (.iload 6, 2) := by decide +kernel
theorem dX4_giftFor_79 : decode cX4_giftFor 79 = .ok (.istore 4, 2) := by decide +kernel
theorem dX4_giftFor_81 : decode cX4_giftFor 81 = .ok (.goto 8, 3) := by decide +kernel
theorem dX4_giftFor_84 : decode cX4_giftFor 84 = .ok (.iload 6, 2) := by decide +kernel
theorem dX4_giftFor_86 : decode cX4_giftFor 86 = .ok (.iconst 1, 1) := by decide +kernel
theorem dX4_giftFor_87 : decode cX4_giftFor 87 = .ok (.iadd, 1) := by decide +kernel
theorem dX4_giftFor_88 : decode cX4_giftFor 88 = .ok (.istore_n 3, 1) := by decide +kernel
theorem dX4_giftFor_89 : decode cX4_giftFor 89 = .ok (.iinc 5 1, 3) := by decide +kernel
theorem dX4_giftFor_92 : decode cX4_giftFor 92 = .ok (.goto (-47), 3) := by decide +kernel
theorem dX4_giftFor_95 : decode cX4_giftFor 95 = .ok (.iload 4, 2) := by decide +kernel
theorem dX4_giftFor_97 : decode cX4_giftFor 97 = .ok (.bipush 99, 2) := by decide +kernel
theorem dX4_giftFor_99 : decode cX4_giftFor 99 = .ok (.if_icmp .le 7, 3) := by decide +kernel
theorem dX4_giftFor_102 : decode cX4_giftFor 102 = .ok (.iconst (-1), 1) := by decide +kernel
theorem dX4_giftFor_103 : decode cX4_giftFor 103 = .ok (.goto 5, 3) := by decide +kernel
theorem dX4_giftFor_106 : decode cX4_giftFor 106 = .ok (.iload 4, 2) := by decide +kernel
theorem dX4_giftFor_108 : decode cX4_giftFor 108 = .ok (.ireturn, 1) := by decide +kernel
set_option maxRecDepth 20000 in
theorem ggX4_evenness_X4_at : GoodIn wsX4_evenness wsX4_at := goodIn_r _ [13] (by decide +kernel) (by decide +kernel)
set_option maxRecDepth 20000 in
theorem gX4_evenness_X4_at : GoodIn wsX4_evenness (va_wsS RX4 71 yX4_at wsX4_at) := goodIn_app (goodIn_of _ (by decide +kernel)) ggX4_evenness_X4_at
theorem dX4_evenness_0 : decode cX4_evenness 0 = .ok (.aload_n 0, 1) := by decide +kernel
theorem dX4_evenness_1 : decode cX4_evenness 1 = .ok (.getfield 10, 3) := by decide +kernel
theorem dX4_evenness_4 : decode cX4_evenness 4 = .ok (.getfield 194, 3) := by decide +kernel
theorem dX4_evenness_7 : decode cX4_evenness 7 = .ok (.iconst 0, 1) := by decide +kernel
theorem dX4_evenness_8 : decode cX4_evenness 8 = .ok (.invokestatic 71, 3) := by decide +kernel
theorem dX4_evenness_11 : decode cX4_evenness 11 = .ok (.istore_n 1, 1) := by decide +kernel
theorem dX4_evenness_12 : decode cX4_evenness 12 = .ok (.iload_n 1, 1) := by decide +kernel
theorem dX4_evenness_13 : decode cX4_evenness 13 = .ok (.istore_n 2, 1) := by decide +kernel
theorem dX4_evenness_14 : decode cX4_evenness 14 = .ok (.iconst 1, 1) := by decide +kernel
theorem dX4_evenness_15 : decode cX4_evenness 15 = .ok (.istore_n 3, 1) := by decide +kernel
theorem dX4_evenness_16 : decode cX4_evenness 16 = .ok (.iload_n 3, 1) := by decide +kernel
theorem dX4_evenness_17 : decode cX4_evenness 17 = .ok (.iconst 4, 1) := by decide +kernel
theorem dX4_evenness_18 : decode cX4_evenness 18 = .ok (.if_icmp .ge 41, 3) := by decide +kernel
theorem dX4_evenness_21 : decode cX4_evenness 21 = .ok (.iload_n 1, 1) := by decide +kernel
theorem dX4_evenness_22 : decode cX4_evenness 22 = .ok (.aload_n 0, 1) := by decide +kernel
theorem dX4_evenness_23 : decode cX4_evenness 23 = .ok (.getfield 10, 3) := by decide +kernel
theorem dX4_evenness_26 : decode cX4_evenness 26 = .ok (.getfield 194, 3) := by decide +kernel
theorem dX4_evenness_29 : decode cX4_evenness 29 = .ok (.iload_n 3, 1) := by decide +kernel
theorem dX4_evenness_30 : decode cX4_evenness 30 = .ok (.invokestatic 71, 3) := by decide +kernel
theorem dX4_evenness_33 : decode cX4_evenness 33 = .ok (.invokestatic 241, 3) := by decide +kernel
theorem dX4_evenness_36 : decode cX4_evenness 36 = .ok (.istore_n 1, 1) := by decide +kernel
theorem dX4_evenness_37 : decode cX4_evenness 37 = .ok (.iload_n 2, 1) := by decide +kernel
theorem dX4_evenness_38 : decode cX4_evenness 38 = .ok (.aload_n 0, 1) := by decide +kernel
theorem dX4_evenness_39 : decode cX4_evenness 39 = .ok (.getfield 10, 3) := by decide +kernel
theorem dX4_evenness_42 : decode cX4_evenness 42 = .ok (.getfield 194, 3) := by decide +kernel
theorem dX4_evenness_45 : decode cX4_evenness 45 = .ok (.iload_n 3, 1) := by decide +kernel
theorem dX4_evenness_46 : decode cX4_evenness 46 = .ok (.invokestatic 71, 3) := by decide +kernel
theorem dX4_evenness_49 : decode cX4_evenness 49 = .ok (.invokestatic 246, 3) := by decide +kernel
theorem dX4_evenness_52 : decode cX4_evenness 52 = .ok (.istore_n 2, 1) := by decide +kernel
theorem dX4_evenness_53 : decode cX4_evenness 53 = .ok (.iinc 3 1, 3) := by decide +kernel
theorem dX4_evenness_56 : decode cX4_evenness 56 = .ok (.goto (-40), 3) := by decide +kernel
theorem dX4_evenness_59 : decode cX4_evenness 59 = .ok (.iload_n 2, 1) := by decide +kernel
theorem dX4_evenness_60 : decode cX4_evenness 60 = .ok (.ifCond .ne 7, 3) := by decide +kernel
theorem dX4_evenness_63 : decode cX4_evenness 63 = .ok (.dconst 1, 1) := by decide +kernel
theorem dX4_evenness_64 : decode cX4_evenness 64 = .ok (.goto 8, 3) := by decide +kernel
theorem dX4_evenness_67 : decode cX4_evenness 67 = .ok (.iload_n 1, 1) := by decide +kernel
theorem dX4_evenness_68 : decode cX4_evenness 68 = .ok (.i2d, 1) := by decide +kernel
theorem dX4_evenness_69 : decode cX4_evenness 69 = .ok (.iload_n 2, 1) := by decide +kernel
theorem dX4_evenness_70 : decode cX4_evenness 70 = .ok (.i2d, 1) := by decide +kernel
theorem dX4_evenness_71 : decode cX4_evenness 71 = .ok (.ddiv, 1) := by decide +kernel
theorem dX4_evenness_72 : decode cX4_evenness 72 = .ok (.dreturn, 1) := by decide +kernel
set_option maxRecDepth 20000 in
theorem ggX4_needArm_X4_isWithin : GoodIn wsX4_needArm wsX4_isWithin := goodIn_r _ [6] (by decide +kernel) (by decide +kernel)
set_option maxRecDepth 20000 in
theorem gX4_needArm_X4_isWithin : GoodIn wsX4_needArm (va_wsS RX4 48 yX4_isWithin wsX4_isWithin) := goodIn_app (goodIn_of _ (by decide +kernel)) ggX4_needArm_X4_isWithin
theorem dX4_needArm_0 : decode cX4_needArm 0 = .ok (.iload_n 0, 1) := by decide +kernel
theorem dX4_needArm_1 : decode cX4_needArm 1 = .ok (.iconst 0, 1) := by decide +kernel
theorem dX4_needArm_2 : decode cX4_needArm 2 = .ok (.iconst 3, 1) := by decide +kernel
theorem dX4_needArm_3 : decode cX4_needArm 3 = .ok (.invokestatic 48, 3) := by decide +kernel
theorem dX4_needArm_6 : decode cX4_needArm 6 = .ok (.ifCond .ne 14, 3) := by decide +kernel
theorem dX4_needArm_9 : decode cX4_needArm 9 = .ok (.new 302, 3) := by decide +kernel
theorem dX4_needArm_12 : decode cX4_needArm 12 = .ok (.dup, 1) := by decide +kernel
theorem dX4_needArm_13 : decode cX4_needArm 13 = .ok (.ldc_w 304, 3) := by decide +kernel
theorem dX4_needArm_16 : decode cX4_needArm 16 = .ok (.invokespecial 306, 3) := by decide +kernel
theorem dX4_needArm_19 : decode cX4_needArm 19 = .ok (.athrow, 1) := by decide +kernel
theorem dX4_needArm_20 : decode cX4_needArm 20 = .ok (.return_, 1) := by decide +kernel
set_option maxRecDepth 20000 in
theorem ggX4_needState_X4_isWithin : GoodIn wsX4_needState wsX4_isWithin := goodIn_r _ [6] (by decide +kernel) (by decide +kernel)
set_option maxRecDepth 20000 in
theorem gX4_needState_X4_isWithin : GoodIn wsX4_needState (va_wsS RX4 48 yX4_isWithin wsX4_isWithin) := goodIn_app (goodIn_of _ (by decide +kernel)) ggX4_needState_X4_isWithin
theorem dX4_needState_0 : decode cX4_needState 0 = .ok (.iload_n 0, 1) := by decide +kernel
theorem dX4_needState_1 : decode cX4_needState 1 = .ok (.iconst 0, 1) := by decide +kernel
theorem dX4_needState_2 : decode cX4_needState 2 = .ok (.iconst 3, 1) := by decide +kernel
theorem dX4_needState_3 : decode cX4_needState 3 = .ok (.invokestatic 48, 3) := by decide +kernel
theorem dX4_needState_6 : decode cX4_needState 6 = .ok (.ifCond .eq 12, 3) := by decide +kernel
theorem dX4_needState_9 : decode cX4_needState 9 = .ok (.iload_n 1, 1) := by decide +kernel
theorem dX4_needState_10 : decode cX4_needState 10 = .ok (.iconst 0, 1) := by decide +kernel
theorem dX4_needState_11 : decode cX4_needState 11 = .ok (.iconst 3, 1) := by decide +kernel
theorem dX4_needState_12 : decode cX4_needState 12 = .ok (.invokestatic 48, 3) := by decide +kernel
theorem dX4_needState_15 : decode cX4_needState 15 = .ok (.ifCond .ne 14, 3) := by decide +kernel
theorem dX4_needState_18 : decode cX4_needState 18 = .ok (.new 302, 3) := by decide +kernel
theorem dX4_needState_21 : decode cX4_needState 21 = .ok (.dup, 1) := by decide +kernel
theorem dX4_needState_22 : decode cX4_needState 22 = .ok (.ldc_w 307, 3) := by decide +kernel
theorem dX4_needState_25 : decode cX4_needState 25 = .ok (.invokespecial 306, 3) := by decide +kernel
theorem dX4_needState_28 : decode cX4_needState 28 = .ok (.athrow, 1) := by decide +kernel
theorem dX4_needState_29 : decode cX4_needState 29 = .ok (.return_, 1) := by decide +kernel
set_option maxRecDepth 20000 in
theorem ggX4_needSetting_X4_isWithin : GoodIn wsX4_needSetting wsX4_isWithin := goodIn_r _ [6] (by decide +kernel) (by decide +kernel)
set_option maxRecDepth 20000 in
theorem gX4_needSetting_X4_isWithin : GoodIn wsX4_needSetting (va_wsS RX4 48 yX4_isWithin wsX4_isWithin) := goodIn_app (goodIn_of _ (by decide +kernel)) ggX4_needSetting_X4_isWithin
theorem dX4_needSetting_0 : decode cX4_needSetting 0 = .ok (.iload_n 0, 1) := by decide +kernel
theorem dX4_needSetting_1 : decode cX4_needSetting 1 = .ok (.iconst 0, 1) := by decide +kernel
theorem dX4_needSetting_2 : decode cX4_needSetting 2 = .ok (.iconst 3, 1) := by decide +kernel
theorem dX4_needSetting_3 : decode cX4_needSetting 3 = .ok (.invokestatic 48, 3) := by decide +kernel
theorem dX4_needSetting_6 : decode cX4_needSetting 6 = .ok (.ifCond .ne 14, 3) := by decide +kernel
theorem dX4_needSetting_9 : decode cX4_needSetting 9 = .ok (.new 302, 3) := by decide +kernel
theorem dX4_needSetting_12 : decode cX4_needSetting 12 = .ok (.dup, 1) := by decide +kernel
theorem dX4_needSetting_13 : decode cX4_needSetting 13 = .ok (.ldc_w 309, 3) := by decide +kernel
theorem dX4_needSetting_16 : decode cX4_needSetting 16 = .ok (.invokespecial 306, 3) := by decide +kernel
theorem dX4_needSetting_19 : decode cX4_needSetting 19 = .ok (.athrow, 1) := by decide +kernel
theorem dX4_needSetting_20 : decode cX4_needSetting 20 = .ok (.return_, 1) := by decide +kernel
set_option maxRecDepth 20000 in
theorem ggX4_needRule_X4_isWithin : GoodIn wsX4_needRule wsX4_isWithin := goodIn_r _ [6] (by decide +kernel) (by decide +kernel)
set_option maxRecDepth 20000 in
theorem gX4_needRule_X4_isWithin : GoodIn wsX4_needRule (va_wsS RX4 48 yX4_isWithin wsX4_isWithin) := goodIn_app (goodIn_of _ (by decide +kernel)) ggX4_needRule_X4_isWithin
theorem dX4_needRule_0 : decode cX4_needRule 0 = .ok (.iload_n 0, 1) := by decide +kernel
theorem dX4_needRule_1 : decode cX4_needRule 1 = .ok (.iconst 0, 1) := by decide +kernel
theorem dX4_needRule_2 : decode cX4_needRule 2 = .ok (.iconst 2, 1) := by decide +kernel
theorem dX4_needRule_3 : decode cX4_needRule 3 = .ok (.invokestatic 48, 3) := by decide +kernel
theorem dX4_needRule_6 : decode cX4_needRule 6 = .ok (.ifCond .ne 14, 3) := by decide +kernel
theorem dX4_needRule_9 : decode cX4_needRule 9 = .ok (.new 52, 3) := by decide +kernel
theorem dX4_needRule_12 : decode cX4_needRule 12 = .ok (.dup, 1) := by decide +kernel
theorem dX4_needRule_13 : decode cX4_needRule 13 = .ok (.ldc_w 311, 3) := by decide +kernel
theorem dX4_needRule_16 : decode cX4_needRule 16 = .ok (.invokespecial 56, 3) := by decide +kernel
theorem dX4_needRule_19 : decode cX4_needRule 19 = .ok (.athrow, 1) := by decide +kernel
theorem dX4_needRule_20 : decode cX4_needRule 20 = .ok (.return_, 1) := by decide +kernel
set_option maxRecDepth 20000 in
theorem ggX4_needPulls_X4_isWithin : GoodIn wsX4_needPulls wsX4_isWithin := goodIn_r _ [6] (by decide +kernel) (by decide +kernel)
set_option maxRecDepth 20000 in
theorem gX4_needPulls_X4_isWithin : GoodIn wsX4_needPulls (va_wsS RX4 48 yX4_isWithin wsX4_isWithin) := goodIn_app (goodIn_of _ (by decide +kernel)) ggX4_needPulls_X4_isWithin
theorem dX4_needPulls_0 : decode cX4_needPulls 0 = .ok (.iload_n 0, 1) := by decide +kernel
theorem dX4_needPulls_1 : decode cX4_needPulls 1 = .ok (.iconst 1, 1) := by decide +kernel
theorem dX4_needPulls_2 : decode cX4_needPulls 2 = .ok (.bipush 99, 2) := by decide +kernel
theorem dX4_needPulls_4 : decode cX4_needPulls 4 = .ok (.invokestatic 48, 3) := by decide +kernel
theorem dX4_needPulls_7 : decode cX4_needPulls 7 = .ok (.ifCond .ne 14, 3) := by decide +kernel
theorem dX4_needPulls_10 : decode cX4_needPulls 10 = .ok (.new 52, 3) := by decide +kernel
theorem dX4_needPulls_13 : decode cX4_needPulls 13 = .ok (.dup, 1) := by decide +kernel
theorem dX4_needPulls_14 : decode cX4_needPulls 14 = .ok (.ldc_w 313, 3) := by decide +kernel
theorem dX4_needPulls_17 : decode cX4_needPulls 17 = .ok (.invokespecial 56, 3) := by decide +kernel
theorem dX4_needPulls_20 : decode cX4_needPulls 20 = .ok (.athrow, 1) := by decide +kernel
theorem dX4_needPulls_21 : decode cX4_needPulls 21 = .ok (.return_, 1) := by decide +kernel
set_option maxRecDepth 20000 in
theorem ggX4_reachedFrom_X4_slotOf : GoodIn wsX4_reachedFrom wsX4_slotOf := goodIn_r _ [4] (by decide +kernel) (by decide +kernel)
set_option maxRecDepth 20000 in
theorem gX4_reachedFrom_X4_slotOf : GoodIn wsX4_reachedFrom (va_wsS RX4 63 yX4_slotOf wsX4_slotOf) := goodIn_app (goodIn_of _ (by decide +kernel)) ggX4_reachedFrom_X4_slotOf
set_option maxRecDepth 20000 in
theorem ggX4_reachedFrom_X4_nextOf : GoodIn wsX4_reachedFrom wsX4_nextOf := goodIn_r _ [8, 9, 10, 11, 12, 13, 14, 3, 15, 16, 17, 18, 19, 20, 21, 22, 23, 24, 25, 26, 27, 28, 29, 30, 31, 32, 33] (by decide +kernel) (by decide +kernel)
set_option maxRecDepth 20000 in
theorem gX4_reachedFrom_X4_nextOf : GoodIn wsX4_reachedFrom (wsV RX4 315 RX4 yX4_nextOf wsX4_nextOf) := goodIn_app (goodIn_of _ (by decide +kernel)) ggX4_reachedFrom_X4_nextOf
theorem dX4_reachedFrom_0 : decode cX4_reachedFrom 0 = .ok (.iconst 1, 1) := by decide +kernel
theorem dX4_reachedFrom_1 : decode cX4_reachedFrom 1 = .ok (.iload_n 2, 1) := by decide +kernel
theorem dX4_reachedFrom_2 : decode cX4_reachedFrom 2 = .ok (.ishl, 1) := by decide +kernel
theorem dX4_reachedFrom_3 : decode cX4_reachedFrom 3 = .ok (.istore_n 3, 1) := by decide +kernel
theorem dX4_reachedFrom_4 : decode cX4_reachedFrom 4 = .ok (.iconst 1, 1) := by decide +kernel
theorem dX4_reachedFrom_5 : decode cX4_reachedFrom 5 = .ok (.istore 4, 2) := by decide +kernel
theorem dX4_reachedFrom_7 : decode cX4_reachedFrom 7 = .ok (.iload 4, 2) := by decide +kernel
theorem dX4_reachedFrom_9 : decode cX4_reachedFrom 9 = .ok (.iconst 4, 1) := by decide +kernel
theorem dX4_reachedFrom_10 : decode cX4_reachedFrom 10 = .ok (.if_icmp .ge 46, 3) := by decide +kernel
theorem dX4_reachedFrom_13 : decode cX4_reachedFrom 13 = .ok (.iconst 0, 1) := by decide +kernel
theorem dX4_reachedFrom_14 : decode cX4_reachedFrom 14 = .ok (.istore 5, 2) := by decide +kernel
theorem dX4_reachedFrom_16 : decode cX4_reachedFrom 16 = .ok (.iload 5, 2) := by decide +kernel
theorem dX4_reachedFrom_18 : decode cX4_reachedFrom 18 = .ok (.iconst 4, 1) := by decide +kernel
theorem dX4_reachedFrom_19 : decode cX4_reachedFrom 19 = .ok (.if_icmp .ge 31, 3) := by decide +kernel
theorem dX4_reachedFrom_22 : decode cX4_reachedFrom 22 = .ok (.iload_n 3, 1) := by decide +kernel
theorem dX4_reachedFrom_23 : decode cX4_reachedFrom 23 = .ok (.iconst 1, 1) := by decide +kernel
theorem dX4_reachedFrom_24 : decode cX4_reachedFrom 24 = .ok (.iload 5, 2) := by decide +kernel
theorem dX4_reachedFrom_26 : decode cX4_reachedFrom 26 = .ok (.ishl, 1) := by decide +kernel
theorem dX4_reachedFrom_27 : decode cX4_reachedFrom 27 = .ok (.iand, 1) := by decide +kernel
theorem dX4_reachedFrom_28 : decode cX4_reachedFrom 28 = .ok (.ifCond .eq 16, 3) := by decide +kernel
theorem dX4_reachedFrom_31 : decode cX4_reachedFrom 31 = .ok (.iload_n 3, 1) := by decide +kernel
theorem dX4_reachedFrom_32 : decode cX4_reachedFrom 32 = .ok (.aload_n 0, 1) := by decide +kernel
theorem dX4_reachedFrom_33 : decode cX4_reachedFrom 33 = .ok (.iload_n 1, 1) := by decide +kernel
theorem dX4_reachedFrom_34 : decode cX4_reachedFrom 34 = .ok (.iload 5, 2) := by decide +kernel
theorem dX4_reachedFrom_36 : decode cX4_reachedFrom 36 = .ok (.invokestatic 63, 3) := by decide +kernel
theorem dX4_reachedFrom_39 : decode cX4_reachedFrom 39 = .ok (.invokevirtual 315, 3) := by decide +kernel
theorem dX4_reachedFrom_42 : decode cX4_reachedFrom 42 = .ok (.ior, 1) := by decide +kernel
theorem dX4_reachedFrom_43 : decode cX4_reachedFrom 43 = .ok (.istore_n 3, 1) := by decide +kernel
theorem dX4_reachedFrom_44 : decode cX4_reachedFrom 44 = .ok (.iinc 5 1, 3) := by decide +kernel
theorem dX4_reachedFrom_47 : decode cX4_reachedFrom 47 = .ok (.goto (-31), 3) := by decide +kernel
theorem dX4_reachedFrom_50 : decode cX4_reachedFrom 50 = .ok (.iinc 4 1, 3) := by decide +kernel
theorem dX4_reachedFrom_53 : decode cX4_reachedFrom 53 = .ok (.goto (-46), 3) := by decide +kernel
theorem dX4_reachedFrom_56 : decode cX4_reachedFrom 56 = .ok (.iload_n 3, 1) := by decide +kernel
theorem dX4_reachedFrom_57 : decode cX4_reachedFrom 57 = .ok (.ireturn, 1) := by decide +kernel
set_option maxRecDepth 20000 in
theorem ggX4_nextOf_X4_at : GoodIn wsX4_nextOf wsX4_at := goodIn_r _ [8] (by decide +kernel) (by decide +kernel)
set_option maxRecDepth 20000 in
theorem gX4_nextOf_X4_at : GoodIn wsX4_nextOf (va_wsS RX4 71 yX4_at wsX4_at) := goodIn_app (goodIn_of _ (by decide +kernel)) ggX4_nextOf_X4_at
theorem dX4_nextOf_0 : decode cX4_nextOf 0 = .ok (.aload_n 0, 1) := by decide +kernel
theorem dX4_nextOf_1 : decode cX4_nextOf 1 = .ok (.getfield 10, 3) := by decide +kernel
theorem dX4_nextOf_4 : decode cX4_nextOf 4 = .ok (.getfield 91, 3) := by decide +kernel
theorem dX4_nextOf_7 : decode cX4_nextOf 7 = .ok (.iload_n 1, 1) := by decide +kernel
theorem dX4_nextOf_8 : decode cX4_nextOf 8 = .ok (.invokestatic 71, 3) := by decide +kernel
theorem dX4_nextOf_11 : decode cX4_nextOf 11 = .ok (.istore_n 2, 1) := by decide +kernel
theorem dX4_nextOf_12 : decode cX4_nextOf 12 = .ok (.iload_n 2, 1) := by decide +kernel
theorem dX4_nextOf_13 : decode cX4_nextOf 13 = .ok (.ifCond .le 19, 3) := by decide +kernel
theorem dX4_nextOf_16 : decode cX4_nextOf 16 = .ok (.iconst 1, 1) := by decide +kernel
theorem dX4_nextOf_17 : decode cX4_nextOf 17 = .ok (.aload_n 0, 1) := by decide +kernel
theorem dX4_nextOf_18 : decode cX4_nextOf 18 = .ok (.getfield 10, 3) := by decide +kernel
theorem dX4_nextOf_21 : decode cX4_nextOf 21 = .ok (.getfield 85, 3) := by decide +kernel
theorem dX4_nextOf_24 : decode cX4_nextOf 24 = .ok (.iload_n 1, 1) := by decide +kernel
theorem dX4_nextOf_25 : decode cX4_nextOf 25 = .ok (.invokestatic 71, 3) := by decide +kernel
theorem dX4_nextOf_28 : decode cX4_nextOf 28 = .ok (.ishl, 1) := by decide +kernel
theorem dX4_nextOf_29 : decode cX4_nextOf 29 = .ok (.goto 4, 3) := by decide +kernel
theorem dX4_nextOf_32 : decode cX4_nextOf 32 = .ok (.iconst 0, 1) := by decide +kernel
theorem dX4_nextOf_33 : decode cX4_nextOf 33 = .ok (.istore_n 3, 1) := by decide +kernel
theorem dX4_nextOf_34 : decode cX4_nextOf 34 = .ok (.iload_n 2, 1) := by decide +kernel
theorem dX4_nextOf_35 : decode cX4_nextOf 35 = .ok (.bipush 8, 2) := by decide +kernel
theorem dX4_nextOf_37 : decode cX4_nextOf 37 = .ok (.if_icmp .ge 19, 3) := by decide +kernel
theorem dX4_nextOf_40 : decode cX4_nextOf 40 = .ok (.iconst 1, 1) := by decide +kernel
theorem dX4_nextOf_41 : decode cX4_nextOf 41 = .ok (.aload_n 0, 1) := by decide +kernel
theorem dX4_nextOf_42 : decode cX4_nextOf 42 = .ok (.getfield 10, 3) := by decide +kernel
theorem dX4_nextOf_45 : decode cX4_nextOf 45 = .ok (.getfield 88, 3) := by decide +kernel
theorem dX4_nextOf_48 : decode cX4_nextOf 48 = .ok (.iload_n 1, 1) := by decide +kernel
theorem dX4_nextOf_49 : decode cX4_nextOf 49 = .ok (.invokestatic 71, 3) := by decide +kernel
theorem dX4_nextOf_52 : decode cX4_nextOf 52 = .ok (.ishl, 1) := by decide +kernel
theorem dX4_nextOf_53 : decode cX4_nextOf 53 = .ok (.goto 4, 3) := by decide +kernel
theorem dX4_nextOf_56 : decode cX4_nextOf 56 = .ok (.iconst 0, 1) := by decide +kernel
theorem dX4_nextOf_57 : decode cX4_nextOf 57 = .ok (.istore 4, 2) := by decide +kernel
theorem dX4_nextOf_59 : decode cX4_nextOf 59 = .ok (.iload_n 3, 1) := by decide +kernel
theorem dX4_nextOf_60 : decode cX4_nextOf 60 = .ok (.iload 4, 2) := by decide +kernel
theorem dX4_nextOf_62 : decode cX4_nextOf 62 = .ok (.ior, 1) := by decide +kernel
theorem dX4_nextOf_63 : decode cX4_nextOf 63 = .ok (.ireturn, 1) := by decide +kernel
set_option maxRecDepth 20000 in
theorem ggX4_bestState_X4_slotOf : GoodIn wsX4_bestState wsX4_slotOf := goodIn_r _ [6] (by decide +kernel) (by decide +kernel)
set_option maxRecDepth 20000 in
theorem gX4_bestState_X4_slotOf : GoodIn wsX4_bestState (va_wsS RX4 63 yX4_slotOf wsX4_slotOf) := goodIn_app (goodIn_of _ (by decide +kernel)) ggX4_bestState_X4_slotOf
set_option maxRecDepth 20000 in
theorem ggX4_bestState_X4_at_ : GoodIn wsX4_bestState wsX4_at_ := goodIn_r _ [9] (by decide +kernel) (by decide +kernel)
set_option maxRecDepth 20000 in
theorem gX4_bestState_X4_at_ : GoodIn wsX4_bestState (va_wsS RX4 191 yX4_at_ wsX4_at_) := goodIn_app (goodIn_of _ (by decide +kernel)) ggX4_bestState_X4_at_
theorem dX4_bestState_0 : decode cX4_bestState 0 = .ok (.iconst 0, 1) := by decide +kernel
theorem dX4_bestState_1 : decode cX4_bestState 1 = .ok (.istore_n 2, 1) := by decide +kernel
theorem dX4_bestState_2 : decode cX4_bestState 2 = .ok (.iconst 1, 1) := by decide +kernel
theorem dX4_bestState_3 : decode cX4_bestState 3 = .ok (.istore_n 3, 1) := by decide +kernel
theorem dX4_bestState_4 : decode cX4_bestState 4 = .ok (.iload_n 3, 1) := by decide +kernel
theorem dX4_bestState_5 : decode cX4_bestState 5 = .ok (.iconst 4, 1) := by decide +kernel
theorem dX4_bestState_6 : decode cX4_bestState 6 = .ok (.if_icmp .ge 45, 3) := by decide +kernel
theorem dX4_bestState_9 : decode cX4_bestState 9 = .ok (.aload_n 0, 1) := by decide +kernel
theorem dX4_bestState_10 : decode cX4_bestState 10 = .ok (.getfield 29, 3) := by decide +kernel
theorem dX4_bestState_13 : decode cX4_bestState 13 = .ok (.getfield 188, 3) := by decide +kernel
theorem dX4_bestState_16 : decode cX4_bestState 16 = .ok (.iload_n 1, 1) := by decide +kernel
theorem dX4_bestState_17 : decode cX4_bestState 17 = .ok (.iload_n 3, 1) := by decide +kernel
theorem dX4_bestState_18 : decode cX4_bestState 18 = .ok (.invokestatic 63, 3) := by decide +kernel
theorem dX4_bestState_21 : decode cX4_bestState 21 = .ok (.invokestatic 191, 3) := by decide +kernel
theorem dX4_bestState_24 : decode cX4_bestState 24 = .ok (.aload_n 0, 1) := by decide +kernel
theorem dX4_bestState_25 : decode cX4_bestState 25 = .ok (.getfield 29, 3) := by decide +kernel
theorem dX4_bestState_28 : decode cX4_bestState 28 = .ok (.getfield 188, 3) := by decide +kernel
theorem dX4_bestState_31 : decode cX4_bestState 31 = .ok (.iload_n 1, 1) := by decide +kernel
theorem dX4_bestState_32 : decode cX4_bestState 32 = .ok (.iload_n 2, 1) := by decide +kernel
theorem dX4_bestState_33 : decode cX4_bestState 33 = .ok (.invokestatic 63, 3) := by decide +kernel
theorem dX4_bestState_36 : decode cX4_bestState 36 = .ok (.invokestatic 191, 3) := by decide +kernel
theorem dX4_bestState_39 : decode cX4_bestState 39 = .ok (.lcmp, 1) := by decide +kernel
theorem dX4_bestState_40 : decode cX4_bestState 40 = .ok (.ifCond .le 5, 3) := by decide +kernel
theorem dX4_bestState_43 : decode cX4_bestState 43 = .ok (.iload_n 3, 1) := by decide +kernel
theorem dX4_bestState_44 : decode cX4_bestState 44 = .ok (.istore_n 2, 1) := by decide +kernel
theorem dX4_bestState_45 : decode cX4_bestState 45 = .ok (.iinc 3 1, 3) := by decide +kernel
theorem dX4_bestState_48 : decode cX4_bestState 48 = .ok (.goto (-44), 3) := by decide +kernel
theorem dX4_bestState_51 : decode cX4_bestState 51 = .ok (.iload_n 2, 1) := by decide +kernel
theorem dX4_bestState_52 : decode cX4_bestState 52 = .ok (.ireturn, 1) := by decide +kernel
set_option maxRecDepth 20000 in
theorem ggX4_roundsNeeded_X4_at : GoodIn wsX4_roundsNeeded wsX4_at := goodIn_r _ [8] (by decide +kernel) (by decide +kernel)
set_option maxRecDepth 20000 in
theorem gX4_roundsNeeded_X4_at : GoodIn wsX4_roundsNeeded (va_wsS RX4 71 yX4_at wsX4_at) := goodIn_app (goodIn_of _ (by decide +kernel)) ggX4_roundsNeeded_X4_at
set_option maxRecDepth 20000 in
theorem ggX4_roundsNeeded_X4_slotOf : GoodIn wsX4_roundsNeeded wsX4_slotOf := goodIn_r _ [11] (by decide +kernel) (by decide +kernel)
set_option maxRecDepth 20000 in
theorem gX4_roundsNeeded_X4_slotOf : GoodIn wsX4_roundsNeeded (va_wsS RX4 63 yX4_slotOf wsX4_slotOf) := goodIn_app (goodIn_of _ (by decide +kernel)) ggX4_roundsNeeded_X4_slotOf
set_option maxRecDepth 20000 in
theorem ggX4_roundsNeeded_X4_at_ : GoodIn wsX4_roundsNeeded wsX4_at_ := goodIn_r _ [14] (by decide +kernel) (by decide +kernel)
set_option maxRecDepth 20000 in
theorem gX4_roundsNeeded_X4_at_ : GoodIn wsX4_roundsNeeded (va_wsS RX4 191 yX4_at_ wsX4_at_) := goodIn_app (goodIn_of _ (by decide +kernel)) ggX4_roundsNeeded_X4_at_
set_option maxRecDepth 20000 in
theorem ggX4_roundsNeeded_X2_leastRounds : GoodIn wsX4_roundsNeeded wsX2_leastRounds := goodIn_r _ [19, 20, 6, 7, 8, 21, 22, 23, 18, 24, 25, 26, 27, 28, 29, 30, 31, 32, 33, 34, 35, 36, 37, 38, 39, 40, 41, 10, 11, 13, 14, 42, 43, 44, 45, 46, 47, 48, 49, 50, 51, 58, 59, 60, 61, 62, 63, 64, 65, 66, 67, 68, 69, 70, 71, 72, 73] (by decide +kernel) (by decide +kernel)
set_option maxRecDepth 20000 in
theorem gX4_roundsNeeded_X2_leastRounds : GoodIn wsX4_roundsNeeded (wsV RX4 318 RX2 yX2_leastRounds wsX2_leastRounds) := goodIn_app (goodIn_of _ (by decide +kernel)) ggX4_roundsNeeded_X2_leastRounds
theorem dX4_roundsNeeded_0 : decode cX4_roundsNeeded 0 = .ok (.aload_n 0, 1) := by decide +kernel
theorem dX4_roundsNeeded_1 : decode cX4_roundsNeeded 1 = .ok (.getfield 10, 3) := by decide +kernel
theorem dX4_roundsNeeded_4 : decode cX4_roundsNeeded 4 = .ok (.getfield 94, 3) := by decide +kernel
theorem dX4_roundsNeeded_7 : decode cX4_roundsNeeded 7 = .ok (.iload_n 1, 1) := by decide +kernel
theorem dX4_roundsNeeded_8 : decode cX4_roundsNeeded 8 = .ok (.invokestatic 71, 3) := by decide +kernel
theorem dX4_roundsNeeded_11 : decode cX4_roundsNeeded 11 = .ok (.istore_n 2, 1) := by decide +kernel
theorem dX4_roundsNeeded_12 : decode cX4_roundsNeeded 12 = .ok (.aload_n 0, 1) := by decide +kernel
theorem dX4_roundsNeeded_13 : decode cX4_roundsNeeded 13 = .ok (.getfield 29, 3) := by decide +kernel
theorem dX4_roundsNeeded_16 : decode cX4_roundsNeeded 16 = .ok (.aload_n 0, 1) := by decide +kernel
theorem dX4_roundsNeeded_17 : decode cX4_roundsNeeded 17 = .ok (.getfield 10, 3) := by decide +kernel
theorem dX4_roundsNeeded_20 : decode cX4_roundsNeeded 20 = .ok (.iload_n 1, 1) := by decide +kernel
theorem dX4_roundsNeeded_21 : decode cX4_roundsNeeded 21 = .ok (.iload_n 2, 1) := by decide +kernel
theorem dX4_roundsNeeded_22 : decode cX4_roundsNeeded 22 = .ok (.aload_n 0, 1) := by decide +kernel
theorem dX4_roundsNeeded_23 : decode cX4_roundsNeeded 23 = .ok (.getfield 29, 3) := by decide +kernel
theorem dX4_roundsNeeded_26 : decode cX4_roundsNeeded 26 = .ok (.getfield 188, 3) := by decide +kernel
theorem dX4_roundsNeeded_29 : decode cX4_roundsNeeded 29 = .ok (.iload_n 1, 1) := by decide +kernel
theorem dX4_roundsNeeded_30 : decode cX4_roundsNeeded 30 = .ok (.iload_n 2, 1) := by decide +kernel
theorem dX4_roundsNeeded_31 : decode cX4_roundsNeeded 31 = .ok (.invokestatic 63, 3) := by decide +kernel
theorem dX4_roundsNeeded_34 : decode cX4_roundsNeeded 34 = .ok (.invokestatic 191, 3) := by decide +kernel
theorem dX4_roundsNeeded_37 : decode cX4_roundsNeeded 37 = .ok (.invokevirtual 318, 3) := by decide +kernel
theorem dX4_roundsNeeded_40 : decode cX4_roundsNeeded 40 = .ok (.ireturn, 1) := by decide +kernel
set_option maxRecDepth 20000 in
theorem ggX4_playOn_X4_chosenBy : GoodIn wsX4_playOn wsX4_chosenBy := goodIn_r _ [5, 6, 7, 8, 9, 4, 10, 11, 12, 13, 14, 15, 16, 17, 18, 19, 20, 21, 22, 23, 24, 25, 26, 27, 28, 29, 30, 31, 32, 33, 34, 35, 36, 37, 38, 39, 40, 41, 42, 43, 44, 45, 46, 76, 77, 78, 79, 80, 81, 82, 83, 84, 85, 86, 87, 88, 89, 90, 91, 92, 93, 94, 95, 96, 97] (by decide +kernel) (by decide +kernel)
set_option maxRecDepth 20000 in
theorem gX4_playOn_X4_chosenBy : GoodIn wsX4_playOn (wsV RX4 223 RX4 yX4_chosenBy wsX4_chosenBy) := goodIn_app (goodIn_of _ (by decide +kernel)) ggX4_playOn_X4_chosenBy
set_option maxRecDepth 20000 in
theorem ggX4_playOn_X0_pullOnce : GoodIn wsX4_playOn wsX0_pullOnce := goodIn_r _ [50, 51, 52, 53, 30, 54, 55, 56, 57, 58, 36, 59, 17, 4, 18, 20, 21, 32, 33, 34, 28, 35, 60, 61, 62, 63, 64, 65, 66, 67, 68, 69, 70, 71, 72, 73, 74, 75, 76, 77, 78, 79, 80, 81, 82, 83, 84, 85, 86, 87] (by decide +kernel) (by decide +kernel)
set_option maxRecDepth 20000 in
theorem gX4_playOn_X0_pullOnce : GoodIn wsX4_playOn (wsV RX4 126 RX0 yX0_pullOnce wsX0_pullOnce) := goodIn_app (goodIn_of _ (by decide +kernel)) ggX4_playOn_X0_pullOnce
theorem dX4_playOn_0 : decode cX4_playOn 0 = .ok (.iconst 0, 1) := by decide +kernel
theorem dX4_playOn_1 : decode cX4_playOn 1 = .ok (.istore 4, 2) := by decide +kernel
theorem dX4_playOn_3 : decode cX4_playOn 3 = .ok (.iload 4, 2) := by decide +kernel
theorem dX4_playOn_5 : decode cX4_playOn 5 = .ok (.iload_n 3, 1) := by decide +kernel
theorem dX4_playOn_6 : decode cX4_playOn 6 = .ok (.if_icmp .ge 19, 3) := by decide +kernel
theorem dX4_playOn_9 : decode cX4_playOn 9 = .ok (.aload_n 1, 1) := by decide +kernel
theorem dX4_playOn_10 : decode cX4_playOn 10 = .ok (.aload_n 0, 1) := by decide +kernel
theorem dX4_playOn_11 : decode cX4_playOn 11 = .ok (.aload_n 1, 1) := by decide +kernel
theorem dX4_playOn_12 : decode cX4_playOn 12 = .ok (.iload_n 2, 1) := by decide +kernel
theorem dX4_playOn_13 : decode cX4_playOn 13 = .ok (.invokevirtual 223, 3) := by decide +kernel
theorem dX4_playOn_16 : decode cX4_playOn 16 = .ok (.invokevirtual 126, 3) := by decide +kernel
theorem dX4_playOn_19 : decode cX4_playOn 19 = .ok (.iinc 4 1, 3) := by decide +kernel
theorem dX4_playOn_22 : decode cX4_playOn 22 = .ok (.goto (-19), 3) := by decide +kernel
theorem dX4_playOn_25 : decode cX4_playOn 25 = .ok (.return_, 1) := by decide +kernel
set_option maxRecDepth 20000 in
theorem ggX4_gain_X2_refresh : GoodIn wsX4_gain wsX2_refresh := goodIn_r _ [9, 10, 11, 12, 13, 14, 15, 16, 17, 8, 18, 19, 20, 21, 22, 23, 24, 25, 26, 27, 28, 29, 30, 31, 32, 33, 34, 35, 36, 37, 38, 39, 40, 41, 42, 43, 44, 45, 46, 47, 48, 49, 50, 51, 52, 53, 54, 147, 148, 149, 150, 135, 136, 137, 138, 139, 140, 141, 142, 143, 144, 145, 146] (by decide +kernel) (by decide +kernel)
set_option maxRecDepth 20000 in
theorem gX4_gain_X2_refresh : GoodIn wsX4_gain (wsV RX4 137 RX2 yX2_refresh wsX2_refresh) := goodIn_app (goodIn_of _ (by decide +kernel)) ggX4_gain_X2_refresh
set_option maxRecDepth 20000 in
theorem ggX4_gain_X0_copy : GoodIn wsX4_gain wsX0_copy := goodIn_r _ [59, 60, 61, 62, 63, 64, 65, 66, 67, 68, 69, 70, 71, 72, 73, 74, 75, 135, 136, 137, 138, 139, 140, 141, 142, 143, 144, 145, 146] (by decide +kernel) (by decide +kernel)
set_option maxRecDepth 20000 in
theorem gX4_gain_X0_copy : GoodIn wsX4_gain (wsV RX4 231 RX0 yX0_copy wsX0_copy) := goodIn_app (goodIn_of _ (by decide +kernel)) ggX4_gain_X0_copy
set_option maxRecDepth 20000 in
theorem ggX4_gain_X4_playOn : GoodIn wsX4_gain wsX4_playOn := goodIn_r _ [79, 80, 81, 82, 13, 83, 84, 85, 86, 87, 88, 89, 1, 90, 91, 92, 93, 20, 21, 94, 12, 14, 95, 43, 44, 96, 97, 98, 58, 99, 70, 100, 101, 102, 103, 104, 72, 105, 49, 50, 106, 107, 108, 109, 110, 111, 112, 113, 114, 115, 116, 117, 60, 68, 71, 73, 74, 118, 119, 69, 120, 46, 47, 48, 121, 122, 123, 124, 125, 126, 75, 127, 128, 67, 65, 66, 135, 136, 137, 138, 139, 140, 141, 142, 143, 144, 145, 146, 129, 130, 131, 132, 133, 134, 147, 148, 149, 150] (by decide +kernel) (by decide +kernel)
set_option maxRecDepth 20000 in
theorem gX4_gain_X4_playOn : GoodIn wsX4_gain (wsV RX4 144 RX4 yX4_playOn wsX4_playOn) := goodIn_app (goodIn_of _ (by decide +kernel)) ggX4_gain_X4_playOn
theorem dX4_gain_0 : decode cX4_gain 0 = .ok (.aload_n 0, 1) := by decide +kernel
theorem dX4_gain_1 : decode cX4_gain 1 = .ok (.getfield 29, 3) := by decide +kernel
theorem dX4_gain_4 : decode cX4_gain 4 = .ok (.aload_n 0, 1) := by decide +kernel
theorem dX4_gain_5 : decode cX4_gain 5 = .ok (.getfield 10, 3) := by decide +kernel
theorem dX4_gain_8 : decode cX4_gain 8 = .ok (.invokevirtual 137, 3) := by decide +kernel
theorem dX4_gain_11 : decode cX4_gain 11 = .ok (.aload_n 0, 1) := by decide +kernel
theorem dX4_gain_12 : decode cX4_gain 12 = .ok (.getfield 16, 3) := by decide +kernel
theorem dX4_gain_15 : decode cX4_gain 15 = .ok (.aload_n 0, 1) := by decide +kernel
theorem dX4_gain_16 : decode cX4_gain 16 = .ok (.getfield 10, 3) := by decide +kernel
theorem dX4_gain_19 : decode cX4_gain 19 = .ok (.invokevirtual 231, 3) := by decide +kernel
theorem dX4_gain_22 : decode cX4_gain 22 = .ok (.aload_n 0, 1) := by decide +kernel
theorem dX4_gain_23 : decode cX4_gain 23 = .ok (.aload_n 0, 1) := by decide +kernel
theorem dX4_gain_24 : decode cX4_gain 24 = .ok (.getfield 16, 3) := by decide +kernel
theorem dX4_gain_27 : decode cX4_gain 27 = .ok (.iload_n 1, 1) := by decide +kernel
theorem dX4_gain_28 : decode cX4_gain 28 = .ok (.iload_n 2, 1) := by decide +kernel
theorem dX4_gain_29 : decode cX4_gain 29 = .ok (.invokevirtual 144, 3) := by decide +kernel
theorem dX4_gain_32 : decode cX4_gain 32 = .ok (.aload_n 0, 1) := by decide +kernel
theorem dX4_gain_33 : decode cX4_gain 33 = .ok (.getfield 16, 3) := by decide +kernel
theorem dX4_gain_36 : decode cX4_gain 36 = .ok (.getfield 211, 3) := by decide +kernel
theorem dX4_gain_39 : decode cX4_gain 39 = .ok (.aload_n 0, 1) := by decide +kernel
theorem dX4_gain_40 : decode cX4_gain 40 = .ok (.getfield 10, 3) := by decide +kernel
theorem dX4_gain_43 : decode cX4_gain 43 = .ok (.getfield 211, 3) := by decide +kernel
theorem dX4_gain_46 : decode cX4_gain 46 = .ok (.lsub, 1) := by decide +kernel
theorem dX4_gain_47 : decode cX4_gain 47 = .ok (.lreturn, 1) := by decide +kernel
set_option maxRecDepth 20000 in
theorem ggX4_chosenBy_X4_scoreAll : GoodIn wsX4_chosenBy wsX4_scoreAll := goodIn_r _ [6, 7, 8, 9, 10, 11, 12, 13, 5, 14, 15, 16, 17, 18, 19, 20, 21, 22, 23, 24, 25, 26, 27, 28, 29, 30, 31, 32, 33, 34, 35, 43, 44, 45, 46, 47, 48, 49, 50, 51, 52, 53, 54, 55, 56, 57, 58, 59, 60, 61, 62, 63, 64] (by decide +kernel) (by decide +kernel)
set_option maxRecDepth 20000 in
theorem gX4_chosenBy_X4_scoreAll : GoodIn wsX4_chosenBy (wsV RX4 234 RX4 yX4_scoreAll wsX4_scoreAll) := goodIn_app (goodIn_of _ (by decide +kernel)) ggX4_chosenBy_X4_scoreAll
set_option maxRecDepth 20000 in
theorem ggX4_chosenBy_X4_greatestScore : GoodIn wsX4_chosenBy wsX4_greatestScore := goodIn_r _ [39, 11, 40, 41, 5, 42, 18, 19, 20, 55, 56, 57, 58, 59, 60] (by decide +kernel) (by decide +kernel)
set_option maxRecDepth 20000 in
theorem gX4_chosenBy_X4_greatestScore : GoodIn wsX4_chosenBy (wsV RX4 322 RX4 yX4_greatestScore wsX4_greatestScore) := goodIn_app (goodIn_of _ (by decide +kernel)) ggX4_chosenBy_X4_greatestScore
theorem dX4_chosenBy_0 : decode cX4_chosenBy 0 = .ok (.iload_n 2, 1) := by decide +kernel
theorem dX4_chosenBy_1 : decode cX4_chosenBy 1 = .ok (.ifCond .eq 8, 3) := by decide +kernel
theorem dX4_chosenBy_4 : decode cX4_chosenBy 4 = .ok (.iload_n 2, 1) := by decide +kernel
theorem dX4_chosenBy_5 : decode cX4_chosenBy 5 = .ok (.iconst 1, 1) := by decide +kernel
theorem dX4_chosenBy_6 : decode cX4_chosenBy 6 = .ok (.if_icmp .ne 18, 3) := by decide +kernel
theorem dX4_chosenBy_9 : decode cX4_chosenBy 9 = .ok (.aload_n 0, 1) := by decide +kernel
theorem dX4_chosenBy_10 : decode cX4_chosenBy 10 = .ok (.aload_n 1, 1) := by decide +kernel
theorem dX4_chosenBy_11 : decode cX4_chosenBy 11 = .ok (.iload_n 2, 1) := by decide +kernel
theorem dX4_chosenBy_12 : decode cX4_chosenBy 12 = .ok (.invokevirtual 234, 3) := by decide +kernel
theorem dX4_chosenBy_15 : decode cX4_chosenBy 15 = .ok (.aload_n 0, 1) := by decide +kernel
theorem dX4_chosenBy_16 : decode cX4_chosenBy 16 = .ok (.aload_n 1, 1) := by decide +kernel
theorem dX4_chosenBy_17 : decode cX4_chosenBy 17 = .ok (.getfield 206, 3) := by decide +kernel
theorem dX4_chosenBy_20 : decode cX4_chosenBy 20 = .ok (.invokevirtual 322, 3) := by decide +kernel
theorem dX4_chosenBy_23 : decode cX4_chosenBy 23 = .ok (.ireturn, 1) := by decide +kernel
theorem dX4_chosenBy_24 : decode cX4_chosenBy 24 = .ok (.aload_n 1, 1) := by decide +kernel
theorem dX4_chosenBy_25 : decode cX4_chosenBy 25 = .ok (.getfield 206, 3) := by decide +kernel
theorem dX4_chosenBy_28 : decode cX4_chosenBy 28 = .ok (.iconst (-1), 1) := by decide +kernel
theorem dX4_chosenBy_29 : decode cX4_chosenBy 29 = .ok (.if_icmp .ne 7, 3) := by decide +kernel
theorem dX4_chosenBy_32 : decode cX4_chosenBy 32 = .ok (.iconst 0, 1) := by decide +kernel
theorem dX4_chosenBy_33 : decode cX4_chosenBy 33 = .ok (.goto 11, 3) := by decide +kernel
theorem dX4_chosenBy_36 : decode cX4_chosenBy 36 = .ok (.aload_n 1, 1) := by decide +kernel
theorem dX4_chosenBy_37 : decode cX4_chosenBy 37 = .ok (.getfield 206, 3) := by decide +kernel
theorem dX4_chosenBy_40 : decode cX4_chosenBy 40 = .ok (.iconst 1, 1) := by decide +kernel
theorem dX4_chosenBy_41 : decode cX4_chosenBy 41 = .ok (.iadd, 1) := by decide +kernel
theorem dX4_chosenBy_42 : decode cX4_chosenBy 42 = .ok (.iconst 4, 1) := by decide +kernel
theorem dX4_chosenBy_43 : decode cX4_chosenBy 43 = .ok (.irem, 1) := by decide +kernel
theorem dX4_chosenBy_44 : decode cX4_chosenBy 44 = .ok (.ireturn, 1) := by decide +kernel
set_option maxRecDepth 20000 in
theorem ggX4_scoreAll_X4_at : GoodIn wsX4_scoreAll wsX4_at := goodIn_r _ [9] (by decide +kernel) (by decide +kernel)
set_option maxRecDepth 20000 in
theorem gX4_scoreAll_X4_at : GoodIn wsX4_scoreAll (va_wsS RX4 71 yX4_at wsX4_at) := goodIn_app (goodIn_of _ (by decide +kernel)) ggX4_scoreAll_X4_at
set_option maxRecDepth 20000 in
theorem ggX4_scoreAll_X4_slotOf : GoodIn wsX4_scoreAll wsX4_slotOf := goodIn_r _ [12] (by decide +kernel) (by decide +kernel)
set_option maxRecDepth 20000 in
theorem gX4_scoreAll_X4_slotOf : GoodIn wsX4_scoreAll (va_wsS RX4 63 yX4_slotOf wsX4_slotOf) := goodIn_app (goodIn_of _ (by decide +kernel)) ggX4_scoreAll_X4_slotOf
set_option maxRecDepth 20000 in
theorem ggX4_scoreAll_X4_at_ : GoodIn wsX4_scoreAll wsX4_at_ := goodIn_r _ [15] (by decide +kernel) (by decide +kernel)
set_option maxRecDepth 20000 in
theorem gX4_scoreAll_X4_at_ : GoodIn wsX4_scoreAll (va_wsS RX4 191 yX4_at_ wsX4_at_) := goodIn_app (goodIn_of _ (by decide +kernel)) ggX4_scoreAll_X4_at_
set_option maxRecDepth 20000 in
theorem ggX4_scoreAll_X0_costOf : GoodIn wsX4_scoreAll wsX0_costOf := goodIn_r _ [20, 21, 22, 23, 24, 25, 19, 26, 27, 7, 8, 9, 31, 32, 33, 34, 35, 36, 37, 38, 39, 40, 41, 42] (by decide +kernel) (by decide +kernel)
set_option maxRecDepth 20000 in
theorem gX4_scoreAll_X0_costOf : GoodIn wsX4_scoreAll (wsV RX4 325 RX0 yX0_costOf wsX0_costOf) := goodIn_app (goodIn_of _ (by decide +kernel)) ggX4_scoreAll_X0_costOf
set_option maxRecDepth 20000 in
theorem ggX4_scoreAll_X4_store_ : GoodIn wsX4_scoreAll wsX4_store_ := goodIn_r _ [30] (by decide +kernel) (by decide +kernel)
set_option maxRecDepth 20000 in
theorem gX4_scoreAll_X4_store_ : GoodIn wsX4_scoreAll (va_wsS RX4 328 yX4_store_ wsX4_store_) := goodIn_app (goodIn_of _ (by decide +kernel)) ggX4_scoreAll_X4_store_
theorem dX4_scoreAll_0 : decode cX4_scoreAll 0 = .ok (.iconst 0, 1) := by decide +kernel
theorem dX4_scoreAll_1 : decode cX4_scoreAll 1 = .ok (.istore_n 3, 1) := by decide +kernel
theorem dX4_scoreAll_2 : decode cX4_scoreAll 2 = .ok (.iload_n 3, 1) := by decide +kernel
theorem dX4_scoreAll_3 : decode cX4_scoreAll 3 = .ok (.iconst 4, 1) := by decide +kernel
theorem dX4_scoreAll_4 : decode cX4_scoreAll 4 = .ok (.if_icmp .ge 71, 3) := by decide +kernel
theorem dX4_scoreAll_7 : decode cX4_scoreAll 7 = .ok (.iload_n 3, 1) := by decide +kernel
theorem dX4_scoreAll_8 : decode cX4_scoreAll 8 = .ok (.aload_n 1, 1) := by decide +kernel
theorem dX4_scoreAll_9 : decode cX4_scoreAll 9 = .ok (.getfield 94, 3) := by decide +kernel
theorem dX4_scoreAll_12 : decode cX4_scoreAll 12 = .ok (.iload_n 3, 1) := by decide +kernel
theorem dX4_scoreAll_13 : decode cX4_scoreAll 13 = .ok (.invokestatic 71, 3) := by decide +kernel
theorem dX4_scoreAll_16 : decode cX4_scoreAll 16 = .ok (.invokestatic 63, 3) := by decide +kernel
theorem dX4_scoreAll_19 : decode cX4_scoreAll 19 = .ok (.istore 4, 2) := by decide +kernel
theorem dX4_scoreAll_21 : decode cX4_scoreAll 21 = .ok (.iload_n 2, 1) := by decide +kernel
theorem dX4_scoreAll_22 : decode cX4_scoreAll 22 = .ok (.ifCond .ne 18, 3) := by decide +kernel
theorem dX4_scoreAll_25 : decode cX4_scoreAll 25 = .ok (.aload_n 0, 1) := by decide +kernel
theorem dX4_scoreAll_26 : decode cX4_scoreAll 26 = .ok (.getfield 29, 3) := by decide +kernel
theorem dX4_scoreAll_29 : decode cX4_scoreAll 29 = .ok (.getfield 188, 3) := by decide +kernel
theorem dX4_scoreAll_32 : decode cX4_scoreAll 32 = .ok (.iload 4, 2) := by decide +kernel
theorem dX4_scoreAll_34 : decode cX4_scoreAll 34 = .ok (.invokestatic 191, 3) := by decide +kernel
theorem dX4_scoreAll_37 : decode cX4_scoreAll 37 = .ok (.goto 13, 3) := by decide +kernel
theorem dX4_scoreAll_40 : decode cX4_scoreAll 40 = .ok (.aload_n 1, 1) := by decide +kernel
theorem dX4_scoreAll_41 : decode cX4_scoreAll 41 = .ok (.getfield 67, 3) := by decide +kernel
theorem dX4_scoreAll_44 : decode cX4_scoreAll 44 = .ok (.iload 4, 2) := by decide +kernel
theorem dX4_scoreAll_46 : decode cX4_scoreAll 46 = .ok (.invokestatic 71, 3) := by decide +kernel
theorem dX4_scoreAll_49 : decode cX4_scoreAll 49 = .ok (.i2l, 1) := by decide +kernel
theorem dX4_scoreAll_50 : decode cX4_scoreAll 50 = .ok (.lstore 5, 2) := by decide +kernel
theorem dX4_scoreAll_52 : decode cX4_scoreAll 52 = .ok (.aload_n 0, 1) := by decide +kernel
theorem dX4_scoreAll_53 : decode cX4_scoreAll 53 = .ok (.getfield 40, 3) := by decide +kernel
theorem dX4_scoreAll_56 : decode cX4_scoreAll 56 = .ok (.iload_n 3, 1) := by decide +kernel
theorem dX4_scoreAll_57 : decode cX4_scoreAll 57 = .ok (.lload 5, 2) := by decide +kernel
theorem dX4_scoreAll_59 : decode cX4_scoreAll 59 = .ok (.aload_n 1, 1) := by decide +kernel
theorem dX4_scoreAll_60 : decode cX4_scoreAll 60 = .ok (.iload_n 3, 1) := by decide +kernel
theorem dX4_scoreAll_61 : decode cX4_scoreAll 61 = .ok (.iload_n 2, 1) := by decide +kernel
theorem dX4_scoreAll_62 : decode cX4_scoreAll 62 = .ok (.invokevirtual 325, 3) := by decide +kernel
theorem dX4_scoreAll_65 : decode cX4_scoreAll 65 = .ok (.lsub, 1) := by decide +kernel
theorem dX4_scoreAll_66 : decode cX4_scoreAll 66 = .ok (.invokestatic 328, 3) := by decide +kernel
theorem dX4_scoreAll_69 : decode cX4_scoreAll 69 = .ok (.iinc 3 1, 3) := by decide +kernel
theorem dX4_scoreAll_72 : decode cX4_scoreAll 72 = .ok (.goto (-70), 3) := by decide +kernel
theorem dX4_scoreAll_75 : decode cX4_scoreAll 75 = .ok (.return_, 1) := by decide +kernel
set_option maxRecDepth 20000 in
theorem ggX4_greatestScore_X4_isWithin : GoodIn wsX4_greatestScore wsX4_isWithin := goodIn_r _ [5] (by decide +kernel) (by decide +kernel)
set_option maxRecDepth 20000 in
theorem gX4_greatestScore_X4_isWithin : GoodIn wsX4_greatestScore (va_wsS RX4 48 yX4_isWithin wsX4_isWithin) := goodIn_app (goodIn_of _ (by decide +kernel)) ggX4_greatestScore_X4_isWithin
set_option maxRecDepth 20000 in
theorem ggX4_greatestScore_X4_at_ : GoodIn wsX4_greatestScore wsX4_at_ := goodIn_r _ [8] (by decide +kernel) (by decide +kernel)
set_option maxRecDepth 20000 in
theorem gX4_greatestScore_X4_at_ : GoodIn wsX4_greatestScore (va_wsS RX4 191 yX4_at_ wsX4_at_) := goodIn_app (goodIn_of _ (by decide +kernel)) ggX4_greatestScore_X4_at_
theorem dX4_greatestScore_0 : decode cX4_greatestScore 0 = .ok (.iload_n 1, 1) := by decide +kernel
theorem dX4_greatestScore_1 : decode cX4_greatestScore 1 = .ok (.iconst 0, 1) := by decide +kernel
theorem dX4_greatestScore_2 : decode cX4_greatestScore 2 = .ok (.iconst 3, 1) := by decide +kernel
theorem dX4_greatestScore_3 : decode cX4_greatestScore 3 = .ok (.invokestatic 48, 3) := by decide +kernel
theorem dX4_greatestScore_6 : decode cX4_greatestScore 6 = .ok (.ifCond .eq 7, 3) := by decide +kernel
theorem dX4_greatestScore_9 : decode cX4_greatestScore 9 = .ok (.iload_n 1, 1) := by decide +kernel
theorem dX4_greatestScore_10 : decode cX4_greatestScore 10 = .ok (.goto 4, 3) := by decide +kernel
theorem dX4_greatestScore_13 : decode cX4_greatestScore 13 = .ok (.iconst 0, 1) := by decide +kernel
theorem dX4_greatestScore_14 : decode cX4_greatestScore 14 = .ok (.istore_n 2, 1) := by decide +kernel
theorem dX4_greatestScore_15 : decode cX4_greatestScore 15 = .ok (.iconst 0, 1) := by decide +kernel
theorem dX4_greatestScore_16 : decode cX4_greatestScore 16 = .ok (.istore_n 3, 1) := by decide +kernel
theorem dX4_greatestScore_17 : decode cX4_greatestScore 17 = .ok (.iload_n 3, 1) := by decide +kernel
theorem dX4_greatestScore_18 : decode cX4_greatestScore 18 = .ok (.iconst 4, 1) := by decide +kernel
theorem dX4_greatestScore_19 : decode cX4_greatestScore 19 = .ok (.if_icmp .ge 31, 3) := by decide +kernel
theorem dX4_greatestScore_22 : decode cX4_greatestScore 22 = .ok (.aload_n 0, 1) := by decide +kernel
theorem dX4_greatestScore_23 : decode cX4_greatestScore 23 = .ok (.getfield 40, 3) := by decide +kernel
theorem dX4_greatestScore_26 : decode cX4_greatestScore 26 = .ok (.iload_n 3, 1) := by decide +kernel
theorem dX4_greatestScore_27 : decode cX4_greatestScore 27 = .ok (.invokestatic 191, 3) := by decide +kernel
theorem dX4_greatestScore_30 : decode cX4_greatestScore 30 = .ok (.aload_n 0, 1) := by decide +kernel
theorem dX4_greatestScore_31 : decode cX4_greatestScore 31 = .ok (.getfield 40, 3) := by decide +kernel
theorem dX4_greatestScore_34 : decode cX4_greatestScore 34 = .ok (.iload_n 2, 1) := by decide +kernel
theorem dX4_greatestScore_35 : decode cX4_greatestScore 35 = .ok (.invokestatic 191, 3) := by decide +kernel
theorem dX4_greatestScore_38 : decode cX4_greatestScore 38 = .ok (.lcmp, 1) := by decide +kernel
theorem dX4_greatestScore_39 : decode cX4_greatestScore 39 = .ok (.ifCond .le 5, 3) := by decide +kernel
theorem dX4_greatestScore_42 : decode cX4_greatestScore 42 = .ok (.iload_n 3, 1) := by decide +kernel
theorem dX4_greatestScore_43 : decode cX4_greatestScore 43 = .ok (.istore_n 2, 1) := by decide +kernel
theorem dX4_greatestScore_44 : decode cX4_greatestScore 44 = .ok (.iinc 3 1, 3) := by decide +kernel
theorem dX4_greatestScore_47 : decode cX4_greatestScore 47 = .ok (.goto (-30), 3) := by decide +kernel
theorem dX4_greatestScore_50 : decode cX4_greatestScore 50 = .ok (.iload_n 2, 1) := by decide +kernel
theorem dX4_greatestScore_51 : decode cX4_greatestScore 51 = .ok (.ireturn, 1) := by decide +kernel
set_option maxRecDepth 20000 in
theorem ggX4_wouldChoose_X4_slotOf : GoodIn wsX4_wouldChoose wsX4_slotOf := goodIn_r _ [9] (by decide +kernel) (by decide +kernel)
set_option maxRecDepth 20000 in
theorem gX4_wouldChoose_X4_slotOf : GoodIn wsX4_wouldChoose (va_wsS RX4 63 yX4_slotOf wsX4_slotOf) := goodIn_app (goodIn_of _ (by decide +kernel)) ggX4_wouldChoose_X4_slotOf
set_option maxRecDepth 20000 in
theorem ggX4_wouldChoose_X4_store : GoodIn wsX4_wouldChoose wsX4_store := goodIn_r _ [12] (by decide +kernel) (by decide +kernel)
set_option maxRecDepth 20000 in
theorem gX4_wouldChoose_X4_store : GoodIn wsX4_wouldChoose (va_wsS RX4 75 yX4_store wsX4_store) := goodIn_app (goodIn_of _ (by decide +kernel)) ggX4_wouldChoose_X4_store
set_option maxRecDepth 20000 in
theorem ggX4_wouldChoose_X2_find : GoodIn wsX4_wouldChoose wsX2_find := goodIn_r _ [17, 18, 19, 8, 20, 21, 22, 23, 16, 24, 25, 26, 27, 28, 29, 30, 31, 32, 33, 34, 35, 36, 37, 38, 39, 40, 41, 7, 9, 42, 43, 44, 45, 46, 47, 48, 49, 50, 51, 52, 53, 81, 82, 83, 84, 85, 86, 87, 88, 89, 90, 91, 92, 93, 94, 95, 96] (by decide +kernel) (by decide +kernel)
set_option maxRecDepth 20000 in
theorem gX4_wouldChoose_X2_find : GoodIn wsX4_wouldChoose (wsV RX4 331 RX2 yX2_find wsX2_find) := goodIn_app (goodIn_of _ (by decide +kernel)) ggX4_wouldChoose_X2_find
set_option maxRecDepth 20000 in
theorem ggX4_wouldChoose_X0_costOf : GoodIn wsX4_wouldChoose wsX0_costOf := goodIn_r _ [58, 59, 60, 61, 62, 63, 57, 64, 65, 19, 8, 20, 81, 82, 83, 84, 85, 86, 87, 88, 89, 90, 91, 92] (by decide +kernel) (by decide +kernel)
set_option maxRecDepth 20000 in
theorem gX4_wouldChoose_X0_costOf : GoodIn wsX4_wouldChoose (wsV RX4 325 RX0 yX0_costOf wsX0_costOf) := goodIn_app (goodIn_of _ (by decide +kernel)) ggX4_wouldChoose_X0_costOf
set_option maxRecDepth 20000 in
theorem ggX4_wouldChoose_X4_store_ : GoodIn wsX4_wouldChoose wsX4_store_ := goodIn_r _ [49] (by decide +kernel) (by decide +kernel)
set_option maxRecDepth 20000 in
theorem gX4_wouldChoose_X4_store_ : GoodIn wsX4_wouldChoose (va_wsS RX4 328 yX4_store_ wsX4_store_) := goodIn_app (goodIn_of _ (by decide +kernel)) ggX4_wouldChoose_X4_store_
set_option maxRecDepth 20000 in
theorem ggX4_wouldChoose_X4_greatestScore : GoodIn wsX4_wouldChoose wsX4_greatestScore := goodIn_r _ [70, 4, 71, 72, 8, 73, 74, 42, 43, 75, 76, 77, 78, 79, 80] (by decide +kernel) (by decide +kernel)
set_option maxRecDepth 20000 in
theorem gX4_wouldChoose_X4_greatestScore : GoodIn wsX4_wouldChoose (wsV RX4 322 RX4 yX4_greatestScore wsX4_greatestScore) := goodIn_app (goodIn_of _ (by decide +kernel)) ggX4_wouldChoose_X4_greatestScore
theorem dX4_wouldChoose_0 : decode cX4_wouldChoose 0 = .ok (.aload_n 0, 1) := by decide +kernel
theorem dX4_wouldChoose_1 : decode cX4_wouldChoose 1 = .ok (.getfield 16, 3) := by decide +kernel
theorem dX4_wouldChoose_4 : decode cX4_wouldChoose 4 = .ok (.getfield 67, 3) := by decide +kernel
theorem dX4_wouldChoose_7 : decode cX4_wouldChoose 7 = .ok (.iload_n 1, 1) := by decide +kernel
theorem dX4_wouldChoose_8 : decode cX4_wouldChoose 8 = .ok (.iload_n 2, 1) := by decide +kernel
theorem dX4_wouldChoose_9 : decode cX4_wouldChoose 9 = .ok (.invokestatic 63, 3) := by decide +kernel
theorem dX4_wouldChoose_12 : decode cX4_wouldChoose 12 = .ok (.iload_n 3, 1) := by decide +kernel
theorem dX4_wouldChoose_13 : decode cX4_wouldChoose 13 = .ok (.invokestatic 75, 3) := by decide +kernel
theorem dX4_wouldChoose_16 : decode cX4_wouldChoose 16 = .ok (.aload_n 0, 1) := by decide +kernel
theorem dX4_wouldChoose_17 : decode cX4_wouldChoose 17 = .ok (.getfield 29, 3) := by decide +kernel
theorem dX4_wouldChoose_20 : decode cX4_wouldChoose 20 = .ok (.aload_n 0, 1) := by decide +kernel
theorem dX4_wouldChoose_21 : decode cX4_wouldChoose 21 = .ok (.getfield 16, 3) := by decide +kernel
theorem dX4_wouldChoose_24 : decode cX4_wouldChoose 24 = .ok (.iload_n 1, 1) := by decide +kernel
theorem dX4_wouldChoose_25 : decode cX4_wouldChoose 25 = .ok (.iload_n 2, 1) := by decide +kernel
theorem dX4_wouldChoose_26 : decode cX4_wouldChoose 26 = .ok (.invokevirtual 331, 3) := by decide +kernel
theorem dX4_wouldChoose_29 : decode cX4_wouldChoose 29 = .ok (.aload_n 0, 1) := by decide +kernel
theorem dX4_wouldChoose_30 : decode cX4_wouldChoose 30 = .ok (.getfield 16, 3) := by decide +kernel
theorem dX4_wouldChoose_33 : decode cX4_wouldChoose 33 = .ok (.iload_n 1, 1) := by decide +kernel
theorem dX4_wouldChoose_34 : decode cX4_wouldChoose 34 = .ok (.iconst 0, 1) := by decide +kernel
theorem dX4_wouldChoose_35 : decode cX4_wouldChoose 35 = .ok (.invokevirtual 325, 3) := by decide +kernel
theorem dX4_wouldChoose_38 : decode cX4_wouldChoose 38 = .ok (.lsub, 1) := by decide +kernel
theorem dX4_wouldChoose_39 : decode cX4_wouldChoose 39 = .ok (.lstore 4, 2) := by decide +kernel
theorem dX4_wouldChoose_41 : decode cX4_wouldChoose 41 = .ok (.aload_n 0, 1) := by decide +kernel
theorem dX4_wouldChoose_42 : decode cX4_wouldChoose 42 = .ok (.getfield 40, 3) := by decide +kernel
theorem dX4_wouldChoose_45 : decode cX4_wouldChoose 45 = .ok (.iload_n 1, 1) := by decide +kernel
theorem dX4_wouldChoose_46 : decode cX4_wouldChoose 46 = .ok (.lload 4, 2) := by decide +kernel
theorem dX4_wouldChoose_48 : decode cX4_wouldChoose 48 = .ok (.invokestatic 328, 3) := by decide +kernel
theorem dX4_wouldChoose_51 : decode cX4_wouldChoose 51 = .ok (.aload_n 0, 1) := by decide +kernel
theorem dX4_wouldChoose_52 : decode cX4_wouldChoose 52 = .ok (.aload_n 0, 1) := by decide +kernel
theorem dX4_wouldChoose_53 : decode cX4_wouldChoose 53 = .ok (.getfield 16, 3) := by decide +kernel
theorem dX4_wouldChoose_56 : decode cX4_wouldChoose 56 = .ok (.getfield 206, 3) := by decide +kernel
theorem dX4_wouldChoose_59 : decode cX4_wouldChoose 59 = .ok (.invokevirtual 322, 3) := by decide +kernel
theorem dX4_wouldChoose_62 : decode cX4_wouldChoose 62 = .ok (.iload_n 1, 1) := by decide +kernel
theorem dX4_wouldChoose_63 : decode cX4_wouldChoose 63 = .ok (.if_icmp .ne 7, 3) := by decide +kernel
theorem dX4_wouldChoose_66 : decode cX4_wouldChoose 66 = .ok (.iconst 1, 1) := by decide +kernel
theorem dX4_wouldChoose_67 : decode cX4_wouldChoose 67 = .ok (.goto 4, 3) := by decide +kernel
theorem dX4_wouldChoose_70 : decode cX4_wouldChoose 70 = .ok (.iconst 0, 1) := by decide +kernel
theorem dX4_wouldChoose_71 : decode cX4_wouldChoose 71 = .ok (.ireturn, 1) := by decide +kernel
