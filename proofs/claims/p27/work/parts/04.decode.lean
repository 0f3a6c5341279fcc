theorem dX0_init_0 : decode cX0_init 0 = .ok (.aload_n 0, 1) := by decide +kernel
theorem dX0_init_1 : decode cX0_init 1 = .ok (.invokespecial 3, 3) := by decide +kernel
theorem dX0_init_4 : decode cX0_init 4 = .ok (.aload_n 0, 1) := by decide +kernel
theorem dX0_init_5 : decode cX0_init 5 = .ok (.bipush 16, 2) := by decide +kernel
theorem dX0_init_7 : decode cX0_init 7 = .ok (.newarray .int, 2) := by decide +kernel
theorem dX0_init_9 : decode cX0_init 9 = .ok (.putfield 9, 3) := by decide +kernel
theorem dX0_init_12 : decode cX0_init 12 = .ok (.aload_n 0, 1) := by decide +kernel
theorem dX0_init_13 : decode cX0_init 13 = .ok (.bipush 16, 2) := by decide +kernel
theorem dX0_init_15 : decode cX0_init 15 = .ok (.newarray .int, 2) := by decide +kernel
theorem dX0_init_17 : decode cX0_init 17 = .ok (.putfield 15, 3) := by decide +kernel
theorem dX0_init_20 : decode cX0_init 20 = .ok (.aload_n 0, 1) := by decide +kernel
theorem dX0_init_21 : decode cX0_init 21 = .ok (.bipush 16, 2) := by decide +kernel
theorem dX0_init_23 : decode cX0_init 23 = .ok (.newarray .int, 2) := by decide +kernel
theorem dX0_init_25 : decode cX0_init 25 = .ok (.putfield 18, 3) := by decide +kernel
theorem dX0_init_28 : decode cX0_init 28 = .ok (.aload_n 0, 1) := by decide +kernel
theorem dX0_init_29 : decode cX0_init 29 = .ok (.bipush 16, 2) := by decide +kernel
theorem dX0_init_31 : decode cX0_init 31 = .ok (.newarray .int, 2) := by decide +kernel
theorem dX0_init_33 : decode cX0_init 33 = .ok (.putfield 21, 3) := by decide +kernel
theorem dX0_init_36 : decode cX0_init 36 = .ok (.aload_n 0, 1) := by decide +kernel
theorem dX0_init_37 : decode cX0_init 37 = .ok (.iconst 4, 1) := by decide +kernel
theorem dX0_init_38 : decode cX0_init 38 = .ok (.newarray .int, 2) := by decide +kernel
theorem dX0_init_40 : decode cX0_init 40 = .ok (.putfield 24, 3) := by decide +kernel
theorem dX0_init_43 : decode cX0_init 43 = .ok (.aload_n 0, 1) := by decide +kernel
theorem dX0_init_44 : decode cX0_init 44 = .ok (.iconst 4, 1) := by decide +kernel
theorem dX0_init_45 : decode cX0_init 45 = .ok (.newarray .int, 2) := by decide +kernel
theorem dX0_init_47 : decode cX0_init 47 = .ok (.putfield 27, 3) := by decide +kernel
theorem dX0_init_50 : decode cX0_init 50 = .ok (.aload_n 0, 1) := by decide +kernel
theorem dX0_init_51 : decode cX0_init 51 = .ok (.iconst 4, 1) := by decide +kernel
theorem dX0_init_52 : decode cX0_init 52 = .ok (.newarray .int, 2) := by decide +kernel
theorem dX0_init_54 : decode cX0_init 54 = .ok (.putfield 30, 3) := by decide +kernel
theorem dX0_init_57 : decode cX0_init 57 = .ok (.iconst 0, 1) := by decide +kernel
theorem dX0_init_58 : decode cX0_init 58 = .ok (.istore_n 1, 1) := by decide +kernel
theorem dX0_init_59 : decode cX0_init 59 = .ok (.iload_n 1, 1) := by decide +kernel
theorem dX0_init_60 : decode cX0_init 60 = .ok (.bipush 16, 2) := by decide +kernel
theorem dX0_init_62 : decode cX0_init 62 = .ok (.if_icmp .ge 34, 3) := by decide +kernel
theorem dX0_init_65 : decode cX0_init 65 = .ok (.aload_n 0, 1) := by decide +kernel
theorem dX0_init_66 : decode cX0_init 66 = .ok (.getfield 15, 3) := by decide +kernel
theorem dX0_init_69 : decode cX0_init 69 = .ok (.iload_n 1, 1) := by decide +kernel
theorem dX0_init_70 : decode cX0_init 70 = .ok (.iload_n 1, 1) := by decide +kernel
theorem dX0_init_71 : decode cX0_init 71 = .ok (.iconst 4, 1) := by decide +kernel
theorem dX0_init_72 : decode cX0_init 72 = .ok (.irem, 1) := by decide +kernel
theorem dX0_init_73 : decode cX0_init 73 = .ok (.iastore, 1) := by decide +kernel
theorem dX0_init_74 : decode cX0_init 74 = .ok (.aload_n 0, 1) := by decide +kernel
theorem dX0_init_75 : decode cX0_init 75 = .ok (.getfield 18, 3) := by decide +kernel
theorem dX0_init_78 : decode cX0_init 78 = .ok (.iload_n 1, 1) := by decide +kernel
theorem dX0_init_79 : decode cX0_init 79 = .ok (.iload_n 1, 1) := by decide +kernel
theorem dX0_init_80 : decode cX0_init 80 = .ok (.iconst 4, 1) := by decide +kernel
theorem dX0_init_81 : decode cX0_init 81 = .ok (.irem, 1) := by decide +kernel
theorem dX0_init_82 : decode cX0_init 82 = .ok (.iastore, 1) := by decide +kernel
theorem dX0_init_83 : decode cX0_init 83 = .ok (.aload_n 0, 1) := by decide +kernel
theorem dX0_init_84 : decode cX0_init 84 = .ok (.getfield 21, 3) := by decide +kernel
theorem dX0_init_87 : decode cX0_init 87 = .ok (.iload_n 1, 1) := by decide +kernel
theorem dX0_init_88 : decode cX0_init 88 = .ok (.iconst 4, 1) := by decide +kernel
theorem dX0_init_89 : decode cX0_init 89 = .ok (.iastore, 1) := by decide +kernel
theorem dX0_init_90 : decode cX0_init 90 = .ok (.iinc 1 1, 3) := by decide +kernel
theorem dX0_init_93 : decode cX0_init 93 = .ok (.goto (-34), 3) := by decide +kernel
theorem dX0_init_96 : decode cX0_init 96 = .ok (.aload_n 0, 1) := by decide +kernel
theorem dX0_init_97 : decode cX0_init 97 = .ok (.getfield 30, 3) := by decide +kernel
theorem dX0_init_100 : decode cX0_init 100 = .ok (.iconst 0, 1) := by decide +kernel
theorem dX0_init_101 : decode cX0_init 101 = .ok (.bipush 90, 2) := by decide +kernel
theorem dX0_init_103 : decode cX0_init 103 = .ok (.iastore, 1) := by decide +kernel
theorem dX0_init_104 : decode cX0_init 104 = .ok (.aload_n 0, 1) := by decide +kernel
theorem dX0_init_105 : decode cX0_init 105 = .ok (.getfield 30, 3) := by decide +kernel
theorem dX0_init_108 : decode cX0_init 108 = .ok (.iconst 1, 1) := by decide +kernel
theorem dX0_init_109 : decode cX0_init 109 = .ok (.bipush 20, 2) := by decide +kernel
theorem dX0_init_111 : decode cX0_init 111 = .ok (.iastore, 1) := by decide +kernel
theorem dX0_init_112 : decode cX0_init 112 = .ok (.aload_n 0, 1) := by decide +kernel
theorem dX0_init_113 : decode cX0_init 113 = .ok (.iconst (-1), 1) := by decide +kernel
theorem dX0_init_114 : decode cX0_init 114 = .ok (.putfield 33, 3) := by decide +kernel
theorem dX0_init_117 : decode cX0_init 117 = .ok (.aload_n 0, 1) := by decide +kernel
theorem dX0_init_118 : decode cX0_init 118 = .ok (.ldc2_w 37, 3) := by decide +kernel
theorem dX0_init_121 : decode cX0_init 121 = .ok (.putfield 39, 3) := by decide +kernel
theorem dX0_init_124 : decode cX0_init 124 = .ok (.aload_n 0, 1) := by decide +kernel
theorem dX0_init_125 : decode cX0_init 125 = .ok (.lconst 1, 1) := by decide +kernel
theorem dX0_init_126 : decode cX0_init 126 = .ok (.putfield 43, 3) := by decide +kernel
theorem dX0_init_129 : decode cX0_init 129 = .ok (.return_, 1) := by decide +kernel
theorem dX0_copy_0 : decode cX0_copy 0 = .ok (.aload_n 1, 1) := by decide +kernel
theorem dX0_copy_1 : decode cX0_copy 1 = .ok (.getfield 9, 3) := by decide +kernel
theorem dX0_copy_4 : decode cX0_copy 4 = .ok (.iconst 0, 1) := by decide +kernel
theorem dX0_copy_5 : decode cX0_copy 5 = .ok (.aload_n 0, 1) := by decide +kernel
theorem dX0_copy_6 : decode cX0_copy 6 = .ok (.getfield 9, 3) := by decide +kernel
theorem dX0_copy_9 : decode cX0_copy 9 = .ok (.iconst 0, 1) := by decide +kernel
theorem dX0_copy_10 : decode cX0_copy 10 = .ok (.bipush 16, 2) := by decide +kernel
theorem dX0_copy_12 : decode cX0_copy 12 = .ok (.invokestatic 46, 3) := by decide +kernel
theorem dX0_copy_15 : decode cX0_copy 15 = .ok (.aload_n 1, 1) := by decide +kernel
theorem dX0_copy_16 : decode cX0_copy 16 = .ok (.getfield 15, 3) := by decide +kernel
theorem dX0_copy_19 : decode cX0_copy 19 = .ok (.iconst 0, 1) := by decide +kernel
theorem dX0_copy_20 : decode cX0_copy 20 = .ok (.aload_n 0, 1) := by decide +kernel
theorem dX0_copy_21 : decode cX0_copy 21 = .ok (.getfield 15, 3) := by decide +kernel
theorem dX0_copy_24 : decode cX0_copy 24 = .ok (.iconst 0, 1) := by decide +kernel
theorem dX0_copy_25 : decode cX0_copy 25 = .ok (.bipush 16, 2) := by decide +kernel
theorem dX0_copy_27 : decode cX0_copy 27 = .ok (.invokestatic 46, 3) := by decide +kernel
theorem dX0_copy_30 : decode cX0_copy 30 = .ok (.aload_n 1, 1) := by decide +kernel
theorem dX0_copy_31 : decode cX0_copy 31 = .ok (.getfield 18, 3) := by decide +kernel
theorem dX0_copy_34 : decode cX0_copy 34 = .ok (.iconst 0, 1) := by decide +kernel
theorem dX0_copy_35 : decode cX0_copy 35 = .ok (.aload_n 0, 1) := by decide +kernel
theorem dX0_copy_36 : decode cX0_copy 36 = .ok (.getfield 18, 3) := by decide +kernel
theorem dX0_copy_39 : decode cX0_copy 39 = .ok (.iconst 0, 1) := by decide +kernel
theorem dX0_copy_40 : decode cX0_copy 40 = .ok (.bipush 16, 2) := by decide +kernel
theorem dX0_copy_42 : decode cX0_copy 42 = .ok (.invokestatic 46, 3) := by decide +kernel
theorem dX0_copy_45 : decode cX0_copy 45 = .ok (.aload_n 1, 1) := by decide +kernel
theorem dX0_copy_46 : decode cX0_copy 46 = .ok (.getfield 21, 3) := by decide +kernel
theorem dX0_copy_49 : decode cX0_copy 49 = .ok (.iconst 0, 1) := by decide +kernel
theorem dX0_copy_50 : decode cX0_copy 50 = .ok (.aload_n 0, 1) := by decide +kernel
theorem dX0_copy_51 : decode cX0_copy 51 = .ok (.getfield 21, 3) := by decide +kernel
theorem dX0_copy_54 : decode cX0_copy 54 = .ok (.iconst 0, 1) := by decide +kernel
theorem dX0_copy_55 : decode cX0_copy 55 = .ok (.bipush 16, 2) := by decide +kernel
theorem dX0_copy_57 : decode cX0_copy 57 = .ok (.invokestatic 46, 3) := by decide +kernel
theorem dX0_copy_60 : decode cX0_copy 60 = .ok (.aload_n 1, 1) := by decide +kernel
theorem dX0_copy_61 : decode cX0_copy 61 = .ok (.getfield 24, 3) := by decide +kernel
theorem dX0_copy_64 : decode cX0_copy 64 = .ok (.iconst 0, 1) := by decide +kernel
theorem dX0_copy_65 : decode cX0_copy 65 = .ok (.aload_n 0, 1) := by decide +kernel
theorem dX0_copy_66 : decode cX0_copy 66 = .ok (.getfield 24, 3) := by decide +kernel
theorem dX0_copy_69 : decode cX0_copy 69 = .ok (.iconst 0, 1) := by decide +kernel
theorem dX0_copy_70 : decode cX0_copy 70 = .ok (.iconst 4, 1) := by decide +kernel
theorem dX0_copy_71 : decode cX0_copy 71 = .ok (.invokestatic 46, 3) := by decide +kernel
theorem dX0_copy_74 : decode cX0_copy 74 = .ok (.aload_n 1, 1) := by decide +kernel
theorem dX0_copy_75 : decode cX0_copy 75 = .ok (.getfield 27, 3) := by decide +kernel
theorem dX0_copy_78 : decode cX0_copy 78 = .ok (.iconst 0, 1) := by decide +kernel
theorem dX0_copy_79 : decode cX0_copy 79 = .ok (.aload_n 0, 1) := by decide +kernel
theorem dX0_copy_80 : decode cX0_copy 80 = .ok (.getfield 27, 3) := by decide +kernel
theorem dX0_copy_83 : decode cX0_copy 83 = .ok (.iconst 0, 1) := by decide +kernel
theorem dX0_copy_84 : decode cX0_copy 84 = .ok (.iconst 4, 1) := by decide +kernel
theorem dX0_copy_85 : decode cX0_copy 85 = .ok (.invokestatic 46, 3) := by decide +kernel
theorem dX0_copy_88 : decode cX0_copy 88 = .ok (.aload_n 1, 1) := by decide +kernel
theorem dX0_copy_89 : decode cX0_copy 89 = .ok (.getfield 30, 3) := by decide +kernel
theorem dX0_copy_92 : decode cX0_copy 92 = .ok (.iconst 0, 1) := by decide +kernel
theorem dX0_copy_93 : decode cX0_copy 93 = .ok (.aload_n 0, 1) := by decide +kernel
theorem dX0_copy_94 : decode cX0_copy 94 = .ok (.getfield 30, 3) := by decide +kernel
theorem dX0_copy_97 : decode cX0_copy 97 = .ok (.iconst 0, 1) := by decide +kernel
theorem dX0_copy_98 : decode cX0_copy 98 = .ok (.iconst 4, 1) := by decide +kernel
theorem dX0_copy_99 : decode cX0_copy 99 = .ok (.invokestatic 46, 3) := by decide +kernel
theorem dX0_copy_102 : decode cX0_copy 102 = .ok (.aload_n 0, 1) := by decide +kernel
theorem dX0_copy_103 : decode cX0_copy 103 = .ok (.aload_n 1, 1) := by decide +kernel
theorem dX0_copy_104 : decode cX0_copy 104 = .ok (.getfield 52, 3) := by decide +kernel
theorem dX0_copy_107 : decode cX0_copy 107 = .ok (.putfield 52, 3) := by decide +kernel
theorem dX0_copy_110 : decode cX0_copy 110 = .ok (.aload_n 0, 1) := by decide +kernel
theorem dX0_copy_111 : decode cX0_copy 111 = .ok (.aload_n 1, 1) := by decide +kernel
theorem dX0_copy_112 : decode cX0_copy 112 = .ok (.getfield 33, 3) := by decide +kernel
theorem dX0_copy_115 : decode cX0_copy 115 = .ok (.putfield 33, 3) := by decide +kernel
theorem dX0_copy_118 : decode cX0_copy 118 = .ok (.aload_n 0, 1) := by decide +kernel
theorem dX0_copy_119 : decode cX0_copy 119 = .ok (.aload_n 1, 1) := by decide +kernel
theorem dX0_copy_120 : decode cX0_copy 120 = .ok (.getfield 55, 3) := by decide +kernel
theorem dX0_copy_123 : decode cX0_copy 123 = .ok (.putfield 55, 3) := by decide +kernel
theorem dX0_copy_126 : decode cX0_copy 126 = .ok (.aload_n 0, 1) := by decide +kernel
theorem dX0_copy_127 : decode cX0_copy 127 = .ok (.aload_n 1, 1) := by decide +kernel
theorem dX0_copy_128 : decode cX0_copy 128 = .ok (.getfield 39, 3) := by decide +kernel
theorem dX0_copy_131 : decode cX0_copy 131 = .ok (.putfield 39, 3) := by decide +kernel
theorem dX0_copy_134 : decode cX0_copy 134 = .ok (.aload_n 0, 1) := by decide +kernel
theorem dX0_copy_135 : decode cX0_copy 135 = .ok (.aload_n 1, 1) := by decide +kernel
theorem dX0_copy_136 : decode cX0_copy 136 = .ok (.getfield 43, 3) := by decide +kernel
theorem dX0_copy_139 : decode cX0_copy 139 = .ok (.putfield 43, 3) := by decide +kernel
theorem dX0_copy_142 : decode cX0_copy 142 = .ok (.return_, 1) := by decide +kernel
set_option maxRecDepth 20000 in
theorem ggX0_beginAnew_X4_store : GoodIn wsX0_beginAnew wsX4_store := goodIn_r _ [11] (by decide +kernel) (by decide +kernel)
set_option maxRecDepth 20000 in
theorem gX0_beginAnew_X4_store_n58 : GoodIn wsX0_beginAnew (wsX4_store) := ggX0_beginAnew_X4_store
theorem dX0_beginAnew_0 : decode cX0_beginAnew 0 = .ok (.iconst 0, 1) := by decide +kernel
theorem dX0_beginAnew_1 : decode cX0_beginAnew 1 = .ok (.istore_n 3, 1) := by decide +kernel
theorem dX0_beginAnew_2 : decode cX0_beginAnew 2 = .ok (.iload_n 3, 1) := by decide +kernel
theorem dX0_beginAnew_3 : decode cX0_beginAnew 3 = .ok (.iconst 4, 1) := by decide +kernel
theorem dX0_beginAnew_4 : decode cX0_beginAnew 4 = .ok (.if_icmp .ge 27, 3) := by decide +kernel
theorem dX0_beginAnew_7 : decode cX0_beginAnew 7 = .ok (.aload_n 0, 1) := by decide +kernel
theorem dX0_beginAnew_8 : decode cX0_beginAnew 8 = .ok (.getfield 24, 3) := by decide +kernel
theorem dX0_beginAnew_11 : decode cX0_beginAnew 11 = .ok (.iload_n 3, 1) := by decide +kernel
theorem dX0_beginAnew_12 : decode cX0_beginAnew 12 = .ok (.iconst 0, 1) := by decide +kernel
theorem dX0_beginAnew_13 : decode cX0_beginAnew 13 = .ok (.invokestatic 58, 3) := by decide +kernel
theorem dX0_beginAnew_16 : decode cX0_beginAnew 16 = .ok (.aload_n 0, 1) := by decide +kernel
theorem dX0_beginAnew_17 : decode cX0_beginAnew 17 = .ok (.getfield 27, 3) := by decide +kernel
theorem dX0_beginAnew_20 : decode cX0_beginAnew 20 = .ok (.iload_n 3, 1) := by decide +kernel
theorem dX0_beginAnew_21 : decode cX0_beginAnew 21 = .ok (.iconst 0, 1) := by decide +kernel
theorem dX0_beginAnew_22 : decode cX0_beginAnew 22 = .ok (.invokestatic 58, 3) := by decide +kernel
theorem dX0_beginAnew_25 : decode cX0_beginAnew 25 = .ok (.iinc 3 1, 3) := by decide +kernel
theorem dX0_beginAnew_28 : decode cX0_beginAnew 28 = .ok (.goto (-26), 3) := by decide +kernel
theorem dX0_beginAnew_31 : decode cX0_beginAnew 31 = .ok (.aload_n 0, 1) := by decide +kernel
theorem dX0_beginAnew_32 : decode cX0_beginAnew 32 = .ok (.iconst 0, 1) := by decide +kernel
theorem dX0_beginAnew_33 : decode cX0_beginAnew 33 = .ok (.putfield 52, 3) := by decide +kernel
theorem dX0_beginAnew_36 : decode cX0_beginAnew 36 = .ok (.aload_n 0, 1) := by decide +kernel
theorem dX0_beginAnew_37 : decode cX0_beginAnew 37 = .ok (.iconst (-1), 1) := by decide +kernel
theorem dX0_beginAnew_38 : decode cX0_beginAnew 38 = .ok (.putfield 33, 3) := by decide +kernel
theorem dX0_beginAnew_41 : decode cX0_beginAnew 41 = .ok (.aload_n 0, 1) := by decide +kernel
theorem dX0_beginAnew_42 : decode cX0_beginAnew 42 = .ok (.lconst 0, 1) := by decide +kernel
theorem dX0_beginAnew_43 : decode cX0_beginAnew 43 = .ok (.putfield 55, 3) := by decide +kernel
theorem dX0_beginAnew_46 : decode cX0_beginAnew 46 = .ok (.aload_n 0, 1) := by decide +kernel
theorem dX0_beginAnew_47 : decode cX0_beginAnew 47 = .ok (.ldc2_w 37, 3) := by decide +kernel
theorem dX0_beginAnew_50 : decode cX0_beginAnew 50 = .ok (.putfield 39, 3) := by decide +kernel
theorem dX0_beginAnew_53 : decode cX0_beginAnew 53 = .ok (.aload_n 0, 1) := by decide +kernel
theorem dX0_beginAnew_54 : decode cX0_beginAnew 54 = .ok (.lload_n 1, 1) := by decide +kernel
theorem dX0_beginAnew_55 : decode cX0_beginAnew 55 = .ok (.putfield 43, 3) := by decide +kernel
theorem dX0_beginAnew_58 : decode cX0_beginAnew 58 = .ok (.return_, 1) := by decide +kernel
set_option maxRecDepth 20000 in
theorem ggX0_allPulls_X4_at : GoodIn wsX0_allPulls wsX4_at := goodIn_r _ [4] (by decide +kernel) (by decide +kernel)
set_option maxRecDepth 20000 in
theorem gX0_allPulls_X4_at_n62 : GoodIn wsX0_allPulls (wsX4_at) := ggX0_allPulls_X4_at
theorem dX0_allPulls_0 : decode cX0_allPulls 0 = .ok (.iconst 0, 1) := by decide +kernel
theorem dX0_allPulls_1 : decode cX0_allPulls 1 = .ok (.istore_n 1, 1) := by decide +kernel
theorem dX0_allPulls_2 : decode cX0_allPulls 2 = .ok (.iconst 0, 1) := by decide +kernel
theorem dX0_allPulls_3 : decode cX0_allPulls 3 = .ok (.istore_n 2, 1) := by decide +kernel
theorem dX0_allPulls_4 : decode cX0_allPulls 4 = .ok (.iload_n 2, 1) := by decide +kernel
theorem dX0_allPulls_5 : decode cX0_allPulls 5 = .ok (.iconst 4, 1) := by decide +kernel
theorem dX0_allPulls_6 : decode cX0_allPulls 6 = .ok (.if_icmp .ge 20, 3) := by decide +kernel
theorem dX0_allPulls_9 : decode cX0_allPulls 9 = .ok (.iload_n 1, 1) := by decide +kernel
theorem dX0_allPulls_10 : decode cX0_allPulls 10 = .ok (.aload_n 0, 1) := by decide +kernel
theorem dX0_allPulls_11 : decode cX0_allPulls 11 = .ok (.getfield 27, 3) := by decide +kernel
theorem dX0_allPulls_14 : decode cX0_allPulls 14 = .ok (.iload_n 2, 1) := by decide +kernel
theorem dX0_allPulls_15 : decode cX0_allPulls 15 = .ok (.invokestatic 62, 3) := by decide +kernel
theorem dX0_allPulls_18 : decode cX0_allPulls 18 = .ok (.iadd, 1) := by decide +kernel
theorem dX0_allPulls_19 : decode cX0_allPulls 19 = .ok (.istore_n 1, 1) := by decide +kernel
theorem dX0_allPulls_20 : decode cX0_allPulls 20 = .ok (.iinc 2 1, 3) := by decide +kernel
theorem dX0_allPulls_23 : decode cX0_allPulls 23 = .ok (.goto (-19), 3) := by decide +kernel
theorem dX0_allPulls_26 : decode cX0_allPulls 26 = .ok (.iload_n 1, 1) := by decide +kernel
theorem dX0_allPulls_27 : decode cX0_allPulls 27 = .ok (.ireturn, 1) := by decide +kernel
theorem dX0_wouldChange_0 : decode cX0_wouldChange 0 = .ok (.aload_n 0, 1) := by decide +kernel
theorem dX0_wouldChange_1 : decode cX0_wouldChange 1 = .ok (.getfield 33, 3) := by decide +kernel
theorem dX0_wouldChange_4 : decode cX0_wouldChange 4 = .ok (.iconst (-1), 1) := by decide +kernel
theorem dX0_wouldChange_5 : decode cX0_wouldChange 5 = .ok (.if_icmp .eq 15, 3) := by decide +kernel
theorem dX0_wouldChange_8 : decode cX0_wouldChange 8 = .ok (.aload_n 0, 1) := by decide +kernel
theorem dX0_wouldChange_9 : decode cX0_wouldChange 9 = .ok (.getfield 33, 3) := by decide +kernel
theorem dX0_wouldChange_12 : decode cX0_wouldChange 12 = .ok (.iload_n 1, 1) := by decide +kernel
theorem dX0_wouldChange_13 : decode cX0_wouldChange 13 = .ok (.if_icmp .eq 7, 3) := by decide +kernel
theorem dX0_wouldChange_16 : decode cX0_wouldChange 16 = .ok (.iconst 1, 1) := by decide +kernel
theorem dX0_wouldChange_17 : decode cX0_wouldChange 17 = .ok (.goto 4, 3) := by decide +kernel
theorem dX0_wouldChange_20 : decode cX0_wouldChange 20 = .ok (.iconst 0, 1) := by decide +kernel
theorem dX0_wouldChange_21 : decode cX0_wouldChange 21 = .ok (.ireturn, 1) := by decide +kernel
set_option maxRecDepth 20000 in
theorem ggX0_costOf_X0_wouldChange : GoodIn wsX0_costOf wsX0_wouldChange := goodIn_r _ [7, 8, 12, 13, 14, 15, 16, 17, 18, 19, 20, 21, 22, 23] (by decide +kernel) (by decide +kernel)
set_option maxRecDepth 20000 in
theorem gX0_costOf_X0_wouldChange : GoodIn wsX0_costOf (wsV RX0 66 RX0 yX0_wouldChange wsX0_wouldChange) := goodIn_app (goodIn_of _ (by decide +kernel)) ggX0_costOf_X0_wouldChange
set_option maxRecDepth 20000 in
theorem ggX0_costOf_X4_at : GoodIn wsX0_costOf wsX4_at := goodIn_r _ [11] (by decide +kernel) (by decide +kernel)
set_option maxRecDepth 20000 in
theorem gX0_costOf_X4_at_n62 : GoodIn wsX0_costOf (wsX4_at) := ggX0_costOf_X4_at
theorem dX0_costOf_0 : decode cX0_costOf 0 = .ok (.aload_n 0, 1) := by decide +kernel
theorem dX0_costOf_1 : decode cX0_costOf 1 = .ok (.iload_n 1, 1) := by decide +kernel
theorem dX0_costOf_2 : decode cX0_costOf 2 = .ok (.invokevirtual 66, 3) := by decide +kernel
theorem dX0_costOf_5 : decode cX0_costOf 5 = .ok (.ifCond .ne 5, 3) := by decide +kernel
theorem dX0_costOf_8 : decode cX0_costOf 8 = .ok (.lconst 0, 1) := by decide +kernel
theorem dX0_costOf_9 : decode cX0_costOf 9 = .ok (.lreturn, 1) := by decide +kernel
theorem dX0_costOf_10 : decode cX0_costOf 10 = .ok (.aload_n 0, 1) := by decide +kernel
theorem dX0_costOf_11 : decode cX0_costOf 11 = .ok (.getfield 30, 3) := by decide +kernel
theorem dX0_costOf_14 : decode cX0_costOf 14 = .ok (.iconst 2, 1) := by decide +kernel
theorem dX0_costOf_15 : decode cX0_costOf 15 = .ok (.invokestatic 62, 3) := by decide +kernel
theorem dX0_costOf_18 : decode cX0_costOf 18 = .ok (.i2l, 1) := by decide +kernel
theorem dX0_costOf_19 : decode cX0_costOf 19 = .ok (.lstore_n 3, 1) := by decide +kernel
theorem dX0_costOf_20 : decode cX0_costOf 20 = .ok (.iload_n 2, 1) := by decide +kernel
theorem dX0_costOf_21 : decode cX0_costOf 21 = .ok (.ifCond .ne 24, 3) := by decide +kernel
theorem dX0_costOf_24 : decode cX0_costOf 24 = .ok (.ldc2_w 70, 3) := by decide +kernel
theorem dX0_costOf_27 : decode cX0_costOf 27 = .ok (.lload_n 3, 1) := by decide +kernel
theorem dX0_costOf_28 : decode cX0_costOf 28 = .ok (.lmul, 1) := by decide +kernel
theorem dX0_costOf_29 : decode cX0_costOf 29 = .ok (.bipush 100, 2) := by decide +kernel
theorem dX0_costOf_31 : decode cX0_costOf 31 = .ok (.aload_n 0, 1) := by decide +kernel
theorem dX0_costOf_32 : decode cX0_costOf 32 = .ok (.getfield 30, 3) := by decide +kernel
theorem dX0_costOf_35 : decode cX0_costOf 35 = .ok (.iconst 0, 1) := by decide +kernel
theorem dX0_costOf_36 : decode cX0_costOf 36 = .ok (.invokestatic 62, 3) := by decide +kernel
theorem dX0_costOf_39 : decode cX0_costOf 39 = .ok (.isub, 1) := by decide +kernel
theorem dX0_costOf_40 : decode cX0_costOf 40 = .ok (.i2l, 1) := by decide +kernel
theorem dX0_costOf_41 : decode cX0_costOf 41 = .ok (.lmul, 1) := by decide +kernel
theorem dX0_costOf_42 : decode cX0_costOf 42 = .ok (.goto 4, 3) := by decide +kernel
theorem dX0_costOf_45 : decode cX0_costOf 45 = .ok (.lload_n 3, 1) := by decide +kernel
theorem dX0_costOf_46 : decode cX0_costOf 46 = .ok (.lreturn, 1) := by decide +kernel
set_option maxRecDepth 20000 in
theorem ggX0_pullOnce_X4_at : GoodIn wsX0_pullOnce wsX4_at := goodIn_r _ [14] (by decide +kernel) (by decide +kernel)
set_option maxRecDepth 20000 in
theorem gX0_pullOnce_X4_at_n62 : GoodIn wsX0_pullOnce (wsX4_at) := ggX0_pullOnce_X4_at
set_option maxRecDepth 20000 in
theorem ggX0_pullOnce_X4_slotOf : GoodIn wsX0_pullOnce wsX4_slotOf := goodIn_r _ [16] (by decide +kernel) (by decide +kernel)
set_option maxRecDepth 20000 in
theorem gX0_pullOnce_X4_slotOf_n74 : GoodIn wsX0_pullOnce (wsX4_slotOf) := ggX0_pullOnce_X4_slotOf
set_option maxRecDepth 20000 in
theorem ggX0_pullOnce_X0_wouldChange : GoodIn wsX0_pullOnce wsX0_wouldChange := goodIn_r _ [21, 10, 38, 39, 40, 41, 42, 43, 44, 45, 46, 47, 48, 49] (by decide +kernel) (by decide +kernel)
set_option maxRecDepth 20000 in
theorem gX0_pullOnce_X0_wouldChange : GoodIn wsX0_pullOnce (wsV RX0 66 RX0 yX0_wouldChange wsX0_wouldChange) := goodIn_app (goodIn_of _ (by decide +kernel)) ggX0_pullOnce_X0_wouldChange
set_option maxRecDepth 20000 in
theorem ggX0_pullOnce_J9_floorDiv_f86c9 : GoodIn wsX0_pullOnce wsJ9_floorDiv_f86c9 := goodIn_r _ [25] (by decide +kernel) (by decide +kernel)
set_option maxRecDepth 20000 in
theorem gX0_pullOnce_J9_floorDiv_f86c9 : GoodIn wsX0_pullOnce (va_wsS RX0 78 yJ9_floorDiv_f86c9 wsJ9_floorDiv_f86c9) := goodIn_app (goodIn_of _ (by decide +kernel)) ggX0_pullOnce_J9_floorDiv_f86c9
set_option maxRecDepth 20000 in
theorem ggX0_pullOnce_X4_store : GoodIn wsX0_pullOnce wsX4_store := goodIn_r _ [27] (by decide +kernel) (by decide +kernel)
set_option maxRecDepth 20000 in
theorem gX0_pullOnce_X4_store_n58 : GoodIn wsX0_pullOnce (wsX4_store) := ggX0_pullOnce_X4_store
set_option maxRecDepth 20000 in
theorem ggX0_pullOnce_X0_goOn : GoodIn wsX0_pullOnce wsX0_goOn := goodIn_r _ [31, 32, 33, 34, 3, 35, 36, 37, 12, 13, 14, 15, 16, 26, 27, 38, 39, 40, 41, 42, 43, 44, 45, 46, 47, 48, 49] (by decide +kernel) (by decide +kernel)
set_option maxRecDepth 20000 in
theorem gX0_pullOnce_X0_goOn : GoodIn wsX0_pullOnce (wsV RX0 86 RX0 yX0_goOn wsX0_goOn) := goodIn_app (goodIn_of _ (by decide +kernel)) ggX0_pullOnce_X0_goOn
theorem dX0_pullOnce_0 : decode cX0_pullOnce 0 = .ok (.ldc2_w 72, 3) := by decide +kernel
theorem dX0_pullOnce_3 : decode cX0_pullOnce 3 = .ok (.aload_n 0, 1) := by decide +kernel
theorem dX0_pullOnce_4 : decode cX0_pullOnce 4 = .ok (.getfield 9, 3) := by decide +kernel
theorem dX0_pullOnce_7 : decode cX0_pullOnce 7 = .ok (.iload_n 1, 1) := by decide +kernel
theorem dX0_pullOnce_8 : decode cX0_pullOnce 8 = .ok (.aload_n 0, 1) := by decide +kernel
theorem dX0_pullOnce_9 : decode cX0_pullOnce 9 = .ok (.getfield 24, 3) := by decide +kernel
theorem dX0_pullOnce_12 : decode cX0_pullOnce 12 = .ok (.iload_n 1, 1) := by decide +kernel
theorem dX0_pullOnce_13 : decode cX0_pullOnce 13 = .ok (.invokestatic 62, 3) := by decide +kernel
theorem dX0_pullOnce_16 : decode cX0_pullOnce 16 = .ok (.invokestatic 74, 3) := by decide +kernel
theorem dX0_pullOnce_19 : decode cX0_pullOnce 19 = .ok (.invokestatic 62, 3) := by decide +kernel
theorem dX0_pullOnce_22 : decode cX0_pullOnce 22 = .ok (.i2l, 1) := by decide +kernel
theorem dX0_pullOnce_23 : decode cX0_pullOnce 23 = .ok (.lmul, 1) := by decide +kernel
theorem dX0_pullOnce_24 : decode cX0_pullOnce 24 = .ok (.lstore_n 2, 1) := by decide +kernel
theorem dX0_pullOnce_25 : decode cX0_pullOnce 25 = .ok (.aload_n 0, 1) := by decide +kernel
theorem dX0_pullOnce_26 : decode cX0_pullOnce 26 = .ok (.iload_n 1, 1) := by decide +kernel
theorem dX0_pullOnce_27 : decode cX0_pullOnce 27 = .ok (.invokevirtual 66, 3) := by decide +kernel
theorem dX0_pullOnce_30 : decode cX0_pullOnce 30 = .ok (.ifCond .eq 29, 3) := by decide +kernel
theorem dX0_pullOnce_33 : decode cX0_pullOnce 33 = .ok (.lload_n 2, 1) := by decide +kernel
theorem dX0_pullOnce_34 : decode cX0_pullOnce 34 = .ok (.ldc2_w 72, 3) := by decide +kernel
theorem dX0_pullOnce_37 : decode cX0_pullOnce 37 = .ok (.aload_n 0, 1) := by decide +kernel
theorem dX0_pullOnce_38 : decode cX0_pullOnce 38 = .ok (.getfield 30, 3) := by decide +kernel
theorem dX0_pullOnce_41 : decode cX0_pullOnce 41 = .ok (.iconst 2, 1) := by decide +kernel
theorem dX0_pullOnce_42 : decode cX0_pullOnce 42 = .ok (.invokestatic 62, 3) := by decide +kernel
theorem dX0_pullOnce_45 : decode cX0_pullOnce 45 = .ok (.i2l, 1) := by decide +kernel
theorem dX0_pullOnce_46 : decode cX0_pullOnce 46 = .ok (.lmul, 1) := by decide +kernel
theorem dX0_pullOnce_47 : decode cX0_pullOnce 47 = .ok (.lsub, 1) := by decide +kernel
theorem dX0_pullOnce_48 : decode cX0_pullOnce 48 = .ok (.lstore_n 2, 1) := by decide +kernel
theorem dX0_pullOnce_49 : decode cX0_pullOnce 49 = .ok (.aload_n 0, 1) := by decide +kernel
theorem dX0_pullOnce_50 : decode cX0_pullOnce 50 = .ok (.dup, 1) := by decide +kernel
theorem dX0_pullOnce_51 : decode cX0_pullOnce 51 = .ok (.getfield 52, 3) := by decide +kernel
theorem dX0_pullOnce_54 : decode cX0_pullOnce 54 = .ok (.iconst 1, 1) := by decide +kernel
theorem dX0_pullOnce_55 : decode cX0_pullOnce 55 = .ok (.iadd, 1) := by decide +kernel
theorem dX0_pullOnce_56 : decode cX0_pullOnce 56 = .ok (.putfield 52, 3) := by decide +kernel
theorem dX0_pullOnce_59 : decode cX0_pullOnce 59 = .ok (.aload_n 0, 1) := by decide +kernel
theorem dX0_pullOnce_60 : decode cX0_pullOnce 60 = .ok (.dup, 1) := by decide +kernel
theorem dX0_pullOnce_61 : decode cX0_pullOnce 61 = .ok (.getfield 55, 3) := by decide +kernel
theorem dX0_pullOnce_64 : decode cX0_pullOnce 64 = .ok (.lload_n 2, 1) := by decide +kernel
theorem dX0_pullOnce_65 : decode cX0_pullOnce 65 = .ok (.aload_n 0, 1) := by decide +kernel
theorem dX0_pullOnce_66 : decode cX0_pullOnce 66 = .ok (.getfield 39, 3) := by decide +kernel
theorem dX0_pullOnce_69 : decode cX0_pullOnce 69 = .ok (.lmul, 1) := by decide +kernel
theorem dX0_pullOnce_70 : decode cX0_pullOnce 70 = .ok (.ldc2_w 37, 3) := by decide +kernel
theorem dX0_pullOnce_73 : decode cX0_pullOnce 73 = .ok (.invokestatic 78, 3) := by decide +kernel
theorem dX0_pullOnce_76 : decode cX0_pullOnce 76 = .ok (.ladd, 1) := by decide +kernel
theorem dX0_pullOnce_77 : decode cX0_pullOnce 77 = .ok (.putfield 55, 3) := by decide +kernel
theorem dX0_pullOnce_80 : decode cX0_pullOnce 80 = .ok (.aload_n 0, 1) := by decide +kernel
theorem dX0_pullOnce_81 : decode cX0_pullOnce 81 = .ok (.aload_n 0, 1) := by decide +kernel
theorem dX0_pullOnce_82 : decode cX0_pullOnce 82 = .ok (.getfield 39, 3) := by decide +kernel
theorem dX0_pullOnce_85 : decode cX0_pullOnce 85 = .ok (.aload_n 0, 1) := by decide +kernel
theorem dX0_pullOnce_86 : decode cX0_pullOnce 86 = .ok (.getfield 30, 3) := by decide +kernel
theorem dX0_pullOnce_89 : decode cX0_pullOnce 89 = .ok (.iconst 0, 1) := by decide +kernel
theorem dX0_pullOnce_90 : decode cX0_pullOnce 90 = .ok (.invokestatic 62, 3) := by decide +kernel
theorem dX0_pullOnce_93 : decode cX0_pullOnce 93 = .ok (.i2l, 1) := by decide +kernel
theorem dX0_pullOnce_94 : decode cX0_pullOnce 94 = .ok (.lmul, 1) := by decide +kernel
theorem dX0_pullOnce_95 : decode cX0_pullOnce 95 = .ok (.ldc2_w 84, 3) := by decide +kernel
theorem dX0_pullOnce_98 : decode cX0_pullOnce 98 = .ok (.invokestatic 78, 3) := by decide +kernel
theorem dX0_pullOnce_101 : decode cX0_pullOnce 101 = .ok (.putfield 39, 3) := by decide +kernel
theorem dX0_pullOnce_104 : decode cX0_pullOnce 104 = .ok (.aload_n 0, 1) := by decide +kernel
theorem dX0_pullOnce_105 : decode cX0_pullOnce 105 = .ok (.iload_n 1, 1) := by decide +kernel
theorem dX0_pullOnce_106 : decode cX0_pullOnce 106 = .ok (.putfield 33, 3) := by decide +kernel
theorem dX0_pullOnce_109 : decode cX0_pullOnce 109 = .ok (.aload_n 0, 1) := by decide +kernel
theorem dX0_pullOnce_110 : decode cX0_pullOnce 110 = .ok (.getfield 27, 3) := by decide +kernel
theorem dX0_pullOnce_113 : decode cX0_pullOnce 113 = .ok (.iload_n 1, 1) := by decide +kernel
theorem dX0_pullOnce_114 : decode cX0_pullOnce 114 = .ok (.aload_n 0, 1) := by decide +kernel
theorem dX0_pullOnce_115 : decode cX0_pullOnce 115 = .ok (.getfield 27, 3) := by decide +kernel
theorem dX0_pullOnce_118 : decode cX0_pullOnce 118 = .ok (.iload_n 1, 1) := by decide +kernel
theorem dX0_pullOnce_119 : decode cX0_pullOnce 119 = .ok (.invokestatic 62, 3) := by decide +kernel
theorem dX0_pullOnce_122 : decode cX0_pullOnce 122 = .ok (.iconst 1, 1) := by decide +kernel
theorem dX0_pullOnce_123 : decode cX0_pullOnce 123 = .ok (.iadd, 1) := by decide +kernel
theorem dX0_pullOnce_124 : decode cX0_pullOnce 124 = .ok (.invokestatic 58, 3) := by decide +kernel
theorem dX0_pullOnce_127 : decode cX0_pullOnce 127 = .ok (.aload_n 0, 1) := by decide +kernel
theorem dX0_pullOnce_128 : decode cX0_pullOnce 128 = .ok (.iload_n 1, 1) := by decide +kernel
theorem dX0_pullOnce_129 : decode cX0_pullOnce 129 = .ok (.invokevirtual 86, 3) := by decide +kernel
theorem dX0_pullOnce_132 : decode cX0_pullOnce 132 = .ok (.aload_n 0, 1) := by decide +kernel
theorem dX0_pullOnce_133 : decode cX0_pullOnce 133 = .ok (.getfield 30, 3) := by decide +kernel
theorem dX0_pullOnce_136 : decode cX0_pullOnce 136 = .ok (.iconst 3, 1) := by decide +kernel
theorem dX0_pullOnce_137 : decode cX0_pullOnce 137 = .ok (.invokestatic 62, 3) := by decide +kernel
theorem dX0_pullOnce_140 : decode cX0_pullOnce 140 = .ok (.iconst 1, 1) := by decide +kernel
theorem dX0_pullOnce_141 : decode cX0_pullOnce 141 = .ok (.if_icmp .ne 30, 3) := by decide +kernel
theorem dX0_pullOnce_144 : decode cX0_pullOnce 144 = .ok (.iconst 0, 1) := by decide +kernel
theorem dX0_pullOnce_145 : decode cX0_pullOnce 145 = .ok (.istore 4, 2) := by decide +kernel
theorem dX0_pullOnce_147 : decode cX0_pullOnce 147 = .ok (.iload 4, 2) := by decide +kernel
theorem dX0_pullOnce_149 : decode cX0_pullOnce 149 = .ok (.iconst 4, 1) := by decide +kernel
theorem dX0_pullOnce_150 : decode cX0_pullOnce 150 = .ok (.if_icmp .ge 21, 3) := by decide +kernel
theorem dX0_pullOnce_153 : decode cX0_pullOnce 153 = .ok (.iload 4, 2) := by decide +kernel
theorem dX0_pullOnce_155 : decode cX0_pullOnce 155 = .ok (.iload_n 1, 1) := by decide +kernel
theorem dX0_pullOnce_156 : decode cX0_pullOnce 156 = .ok (.if_icmp .eq 9, 3) := by decide +kernel
theorem dX0_pullOnce_159 : decode cX0_pullOnce 159 = .ok (.aload_n 0, 1) := by decide +kernel
theorem dX0_pullOnce_160 : decode cX0_pullOnce 160 = .ok (.iload 4, 2) := by decide +kernel
theorem dX0_pullOnce_162 : decode cX0_pullOnce 162 = .ok (.invokevirtual 86, 3) := by decide +kernel
theorem dX0_pullOnce_165 : decode cX0_pullOnce 165 = .ok (.iinc 4 1, 3) := by decide +kernel
theorem dX0_pullOnce_168 : decode cX0_pullOnce 168 = .ok (.goto (-21), 3) := by decide +kernel
theorem dX0_pullOnce_171 : decode cX0_pullOnce 171 = .ok (.return_, 1) := by decide +kernel
set_option maxRecDepth 20000 in
theorem ggX0_goOn_X4_at : GoodIn wsX0_goOn wsX4_at := goodIn_r _ [10] (by decide +kernel) (by decide +kernel)
set_option maxRecDepth 20000 in
theorem gX0_goOn_X4_at_n62 : GoodIn wsX0_goOn (wsX4_at) := ggX0_goOn_X4_at
set_option maxRecDepth 20000 in
theorem ggX0_goOn_X4_slotOf : GoodIn wsX0_goOn wsX4_slotOf := goodIn_r _ [12] (by decide +kernel) (by decide +kernel)
set_option maxRecDepth 20000 in
theorem gX0_goOn_X4_slotOf_n74 : GoodIn wsX0_goOn (wsX4_slotOf) := ggX0_goOn_X4_slotOf
set_option maxRecDepth 20000 in
theorem ggX0_goOn_X4_store : GoodIn wsX0_goOn wsX4_store := goodIn_r _ [14] (by decide +kernel) (by decide +kernel)
set_option maxRecDepth 20000 in
theorem gX0_goOn_X4_store_n58 : GoodIn wsX0_goOn (wsX4_store) := ggX0_goOn_X4_store
theorem dX0_goOn_0 : decode cX0_goOn 0 = .ok (.aload_n 0, 1) := by decide +kernel
theorem dX0_goOn_1 : decode cX0_goOn 1 = .ok (.aload_n 0, 1) := by decide +kernel
theorem dX0_goOn_2 : decode cX0_goOn 2 = .ok (.getfield 43, 3) := by decide +kernel
theorem dX0_goOn_5 : decode cX0_goOn 5 = .ok (.ldc2_w 90, 3) := by decide +kernel
theorem dX0_goOn_8 : decode cX0_goOn 8 = .ok (.lmul, 1) := by decide +kernel
theorem dX0_goOn_9 : decode cX0_goOn 9 = .ok (.ldc2_w 92, 3) := by decide +kernel
theorem dX0_goOn_12 : decode cX0_goOn 12 = .ok (.ladd, 1) := by decide +kernel
theorem dX0_goOn_13 : decode cX0_goOn 13 = .ok (.putfield 43, 3) := by decide +kernel
theorem dX0_goOn_16 : decode cX0_goOn 16 = .ok (.aload_n 0, 1) := by decide +kernel
theorem dX0_goOn_17 : decode cX0_goOn 17 = .ok (.getfield 43, 3) := by decide +kernel
theorem dX0_goOn_20 : decode cX0_goOn 20 = .ok (.bipush 61, 2) := by decide +kernel
theorem dX0_goOn_22 : decode cX0_goOn 22 = .ok (.lushr, 1) := by decide +kernel
theorem dX0_goOn_23 : decode cX0_goOn 23 = .ok (.l2i, 1) := by decide +kernel
theorem dX0_goOn_24 : decode cX0_goOn 24 = .ok (.istore_n 2, 1) := by decide +kernel
theorem dX0_goOn_25 : decode cX0_goOn 25 = .ok (.iload_n 1, 1) := by decide +kernel
theorem dX0_goOn_26 : decode cX0_goOn 26 = .ok (.aload_n 0, 1) := by decide +kernel
theorem dX0_goOn_27 : decode cX0_goOn 27 = .ok (.getfield 24, 3) := by decide +kernel
theorem dX0_goOn_30 : decode cX0_goOn 30 = .ok (.iload_n 1, 1) := by decide +kernel
theorem dX0_goOn_31 : decode cX0_goOn 31 = .ok (.invokestatic 62, 3) := by decide +kernel
theorem dX0_goOn_34 : decode cX0_goOn 34 = .ok (.invokestatic 74, 3) := by decide +kernel
theorem dX0_goOn_37 : decode cX0_goOn 37 = .ok (.istore_n 3, 1) := by decide +kernel
theorem dX0_goOn_38 : decode cX0_goOn 38 = .ok (.aload_n 0, 1) := by decide +kernel
theorem dX0_goOn_39 : decode cX0_goOn 39 = .ok (.getfield 24, 3) := by decide +kernel
theorem dX0_goOn_42 : decode cX0_goOn 42 = .ok (.iload_n 1, 1) := by decide +kernel
theorem dX0_goOn_43 : decode cX0_goOn 43 = .ok (.iload_n 2, 1) := by decide +kernel
theorem dX0_goOn_44 : decode cX0_goOn 44 = .ok (.aload_n 0, 1) := by decide +kernel
theorem dX0_goOn_45 : decode cX0_goOn 45 = .ok (.getfield 21, 3) := by decide +kernel
theorem dX0_goOn_48 : decode cX0_goOn 48 = .ok (.iload_n 3, 1) := by decide +kernel
theorem dX0_goOn_49 : decode cX0_goOn 49 = .ok (.invokestatic 62, 3) := by decide +kernel
theorem dX0_goOn_52 : decode cX0_goOn 52 = .ok (.if_icmp .ge 14, 3) := by decide +kernel
theorem dX0_goOn_55 : decode cX0_goOn 55 = .ok (.aload_n 0, 1) := by decide +kernel
theorem dX0_goOn_56 : decode cX0_goOn 56 = .ok (.getfield 15, 3) := by decide +kernel
theorem dX0_goOn_59 : decode cX0_goOn 59 = .ok (.iload_n 3, 1) := by decide +kernel
theorem dX0_goOn_60 : decode cX0_goOn 60 = .ok (.invokestatic 62, 3) := by decide +kernel
theorem dX0_goOn_63 : decode cX0_goOn 63 = .ok (.goto 11, 3) := by decide +kernel
theorem dX0_goOn_66 : decode cX0_goOn 66 = .ok (.aload_n 0, 1) := by decide +kernel
theorem dX0_goOn_67 : decode cX0_goOn 67 = .ok (.getfield 18, 3) := by decide +kernel
theorem dX0_goOn_70 : decode cX0_goOn 70 = .ok (.iload_n 3, 1) := by decide +kernel
theorem dX0_goOn_71 : decode cX0_goOn 71 = .ok (.invokestatic 62, 3) := by decide +kernel
theorem dX0_goOn_74 : decode cX0_goOn 74 = .ok (.invokestatic 58, 3) := by decide +kernel
theorem dX0_goOn_77 : decode cX0_goOn 77 = .ok (.return_, 1) := by decide +kernel
set_option maxRecDepth 20000 in
theorem ggX1_init_X0_init : GoodIn wsX1_init wsX0_init := goodIn_r _ [10, 11, 2, 3, 12, 13, 14, 15, 16, 17, 18, 19, 20, 21, 22, 23, 26, 27, 28, 29, 30, 31, 32, 33, 34, 35, 36, 37] (by decide +kernel) (by decide +kernel)
set_option maxRecDepth 20000 in
theorem gX1_init_X0_init : GoodIn wsX1_init (wsX0_init) := ggX1_init_X0_init
theorem dX1_init_0 : decode cX1_init 0 = .ok (.aload_n 0, 1) := by decide +kernel
theorem dX1_init_1 : decode cX1_init 1 = .ok (.invokespecial 3, 3) := by decide +kernel
theorem dX1_init_4 : decode cX1_init 4 = .ok (.aload_n 0, 1) := by decide +kernel
theorem dX1_init_5 : decode cX1_init 5 = .ok (.bipush 6, 2) := by decide +kernel
theorem dX1_init_7 : decode cX1_init 7 = .ok (.anewarray 9, 3) := by decide +kernel
theorem dX1_init_10 : decode cX1_init 10 = .ok (.putfield 11, 3) := by decide +kernel
theorem dX1_init_13 : decode cX1_init 13 = .ok (.iconst 0, 1) := by decide +kernel
theorem dX1_init_14 : decode cX1_init 14 = .ok (.istore_n 1, 1) := by decide +kernel
theorem dX1_init_15 : decode cX1_init 15 = .ok (.iload_n 1, 1) := by decide +kernel
theorem dX1_init_16 : decode cX1_init 16 = .ok (.aload_n 0, 1) := by decide +kernel
theorem dX1_init_17 : decode cX1_init 17 = .ok (.getfield 11, 3) := by decide +kernel
theorem dX1_init_20 : decode cX1_init 20 = .ok (.arraylength, 1) := by decide +kernel
theorem dX1_init_21 : decode cX1_init 21 = .ok (.if_icmp .ge 22, 3) := by decide +kernel
theorem dX1_init_24 : decode cX1_init 24 = .ok (.aload_n 0, 1) := by decide +kernel
theorem dX1_init_25 : decode cX1_init 25 = .ok (.getfield 11, 3) := by decide +kernel
theorem dX1_init_28 : decode cX1_init 28 = .ok (.iload_n 1, 1) := by decide +kernel
theorem dX1_init_29 : decode cX1_init 29 = .ok (.new 9, 3) := by decide +kernel
theorem dX1_init_32 : decode cX1_init 32 = .ok (.dup, 1) := by decide +kernel
theorem dX1_init_33 : decode cX1_init 33 = .ok (.invokespecial 17, 3) := by decide +kernel
theorem dX1_init_36 : decode cX1_init 36 = .ok (.aastore, 1) := by decide +kernel
theorem dX1_init_37 : decode cX1_init 37 = .ok (.iinc 1 1, 3) := by decide +kernel
theorem dX1_init_40 : decode cX1_init 40 = .ok (.goto (-25), 3) := by decide +kernel
theorem dX1_init_43 : decode cX1_init 43 = .ok (.return_, 1) := by decide +kernel
set_option maxRecDepth 20000 in
theorem ggX1_keep_X1_moveOldestBehind : GoodIn wsX1_keep wsX1_moveOldestBehind := goodIn_r _ [7, 2, 33, 34] (by decide +kernel) (by decide +kernel)
set_option maxRecDepth 20000 in
theorem gX1_keep_X1_moveOldestBehind : GoodIn wsX1_keep (wsV RX1 22 RX1 yX1_moveOldestBehind wsX1_moveOldestBehind) := goodIn_app (goodIn_of _ (by decide +kernel)) ggX1_keep_X1_moveOldestBehind
set_option maxRecDepth 20000 in
theorem ggX1_keep_X1_boardAt : GoodIn wsX1_keep wsX1_boardAt := goodIn_r _ [11, 2, 33, 34] (by decide +kernel) (by decide +kernel)
set_option maxRecDepth 20000 in
theorem gX1_keep_X1_boardAt : GoodIn wsX1_keep (wsV RX1 25 RX1 yX1_boardAt wsX1_boardAt) := goodIn_app (goodIn_of _ (by decide +kernel)) ggX1_keep_X1_boardAt
set_option maxRecDepth 20000 in
theorem ggX1_keep_X0_copy : GoodIn wsX1_keep wsX0_copy := goodIn_r _ [16, 17, 18, 19, 20, 21, 22, 23, 24, 25, 26, 27, 28, 29, 30, 31, 32, 35, 36, 37, 38, 39, 40, 41, 42, 43, 44, 45, 46] (by decide +kernel) (by decide +kernel)
set_option maxRecDepth 20000 in
theorem gX1_keep_X0_copy : GoodIn wsX1_keep (wsV RX1 29 RX0 yX0_copy wsX0_copy) := goodIn_app (goodIn_of _ (by decide +kernel)) ggX1_keep_X0_copy
theorem dX1_keep_0 : decode cX1_keep 0 = .ok (.aload_n 0, 1) := by decide +kernel
theorem dX1_keep_1 : decode cX1_keep 1 = .ok (.getfield 18, 3) := by decide +kernel
theorem dX1_keep_4 : decode cX1_keep 4 = .ok (.aload_n 0, 1) := by decide +kernel
theorem dX1_keep_5 : decode cX1_keep 5 = .ok (.getfield 11, 3) := by decide +kernel
theorem dX1_keep_8 : decode cX1_keep 8 = .ok (.arraylength, 1) := by decide +kernel
theorem dX1_keep_9 : decode cX1_keep 9 = .ok (.if_icmp .lt 17, 3) := by decide +kernel
theorem dX1_keep_12 : decode cX1_keep 12 = .ok (.aload_n 0, 1) := by decide +kernel
theorem dX1_keep_13 : decode cX1_keep 13 = .ok (.invokevirtual 22, 3) := by decide +kernel
theorem dX1_keep_16 : decode cX1_keep 16 = .ok (.aload_n 0, 1) := by decide +kernel
theorem dX1_keep_17 : decode cX1_keep 17 = .ok (.dup, 1) := by decide +kernel
theorem dX1_keep_18 : decode cX1_keep 18 = .ok (.getfield 18, 3) := by decide +kernel
theorem dX1_keep_21 : decode cX1_keep 21 = .ok (.iconst 1, 1) := by decide +kernel
theorem dX1_keep_22 : decode cX1_keep 22 = .ok (.isub, 1) := by decide +kernel
theorem dX1_keep_23 : decode cX1_keep 23 = .ok (.putfield 18, 3) := by decide +kernel
theorem dX1_keep_26 : decode cX1_keep 26 = .ok (.aload_n 0, 1) := by decide +kernel
theorem dX1_keep_27 : decode cX1_keep 27 = .ok (.aload_n 0, 1) := by decide +kernel
theorem dX1_keep_28 : decode cX1_keep 28 = .ok (.getfield 18, 3) := by decide +kernel
theorem dX1_keep_31 : decode cX1_keep 31 = .ok (.invokevirtual 25, 3) := by decide +kernel
theorem dX1_keep_34 : decode cX1_keep 34 = .ok (.astore_n 2, 1) := by decide +kernel
theorem dX1_keep_35 : decode cX1_keep 35 = .ok (.aload_n 2, 1) := by decide +kernel
theorem dX1_keep_36 : decode cX1_keep 36 = .ok (.ifnull 18, 3) := by decide +kernel
theorem dX1_keep_39 : decode cX1_keep 39 = .ok (.aload_n 2, 1) := by decide +kernel
theorem dX1_keep_40 : decode cX1_keep 40 = .ok (.aload_n 1, 1) := by decide +kernel
theorem dX1_keep_41 : decode cX1_keep 41 = .ok (.invokevirtual 29, 3) := by decide +kernel
theorem dX1_keep_44 : decode cX1_keep 44 = .ok (.aload_n 0, 1) := by decide +kernel
theorem dX1_keep_45 : decode cX1_keep 45 = .ok (.dup, 1) := by decide +kernel
theorem dX1_keep_46 : decode cX1_keep 46 = .ok (.getfield 18, 3) := by decide +kernel
theorem dX1_keep_49 : decode cX1_keep 49 = .ok (.iconst 1, 1) := by decide +kernel
theorem dX1_keep_50 : decode cX1_keep 50 = .ok (.iadd, 1) := by decide +kernel
theorem dX1_keep_51 : decode cX1_keep 51 = .ok (.putfield 18, 3) := by decide +kernel
theorem dX1_keep_54 : decode cX1_keep 54 = .ok (.return_, 1) := by decide +kernel
set_option maxRecDepth 20000 in
theorem ggX1_bringBack_X1_boardAt : GoodIn wsX1_bringBack wsX1_boardAt := goodIn_r _ [6, 7, 29, 30] (by decide +kernel) (by decide +kernel)
set_option maxRecDepth 20000 in
theorem gX1_bringBack_X1_boardAt : GoodIn wsX1_bringBack (wsV RX1 25 RX1 yX1_boardAt wsX1_boardAt) := goodIn_app (goodIn_of _ (by decide +kernel)) ggX1_bringBack_X1_boardAt
set_option maxRecDepth 20000 in
theorem ggX1_bringBack_X0_copy : GoodIn wsX1_bringBack wsX0_copy := goodIn_r _ [12, 13, 14, 15, 16, 17, 18, 19, 20, 21, 22, 23, 24, 25, 26, 27, 28, 31, 32, 33, 34, 35, 36, 37, 38, 39, 40, 41, 42] (by decide +kernel) (by decide +kernel)
set_option maxRecDepth 20000 in
theorem gX1_bringBack_X0_copy : GoodIn wsX1_bringBack (wsV RX1 29 RX0 yX0_copy wsX0_copy) := goodIn_app (goodIn_of _ (by decide +kernel)) ggX1_bringBack_X0_copy
theorem dX1_bringBack_0 : decode cX1_bringBack 0 = .ok (.aload_n 0, 1) := by decide +kernel
theorem dX1_bringBack_1 : decode cX1_bringBack 1 = .ok (.aload_n 0, 1) := by decide +kernel
theorem dX1_bringBack_2 : decode cX1_bringBack 2 = .ok (.getfield 18, 3) := by decide +kernel
theorem dX1_bringBack_5 : decode cX1_bringBack 5 = .ok (.iconst 1, 1) := by decide +kernel
theorem dX1_bringBack_6 : decode cX1_bringBack 6 = .ok (.isub, 1) := by decide +kernel
theorem dX1_bringBack_7 : decode cX1_bringBack 7 = .ok (.invokevirtual 25, 3) := by decide +kernel
theorem dX1_bringBack_10 : decode cX1_bringBack 10 = .ok (.astore_n 2, 1) := by decide +kernel
theorem dX1_bringBack_11 : decode cX1_bringBack 11 = .ok (.aload_n 2, 1) := by decide +kernel
theorem dX1_bringBack_12 : decode cX1_bringBack 12 = .ok (.ifnull 18, 3) := by decide +kernel
theorem dX1_bringBack_15 : decode cX1_bringBack 15 = .ok (.aload_n 1, 1) := by decide +kernel
theorem dX1_bringBack_16 : decode cX1_bringBack 16 = .ok (.aload_n 2, 1) := by decide +kernel
theorem dX1_bringBack_17 : decode cX1_bringBack 17 = .ok (.invokevirtual 29, 3) := by decide +kernel
theorem dX1_bringBack_20 : decode cX1_bringBack 20 = .ok (.aload_n 0, 1) := by decide +kernel
theorem dX1_bringBack_21 : decode cX1_bringBack 21 = .ok (.dup, 1) := by decide +kernel
theorem dX1_bringBack_22 : decode cX1_bringBack 22 = .ok (.getfield 18, 3) := by decide +kernel
theorem dX1_bringBack_25 : decode cX1_bringBack 25 = .ok (.iconst 1, 1) := by decide +kernel
theorem dX1_bringBack_26 : decode cX1_bringBack 26 = .ok (.isub, 1) := by decide +kernel
theorem dX1_bringBack_27 : decode cX1_bringBack 27 = .ok (.putfield 18, 3) := by decide +kernel
theorem dX1_bringBack_30 : decode cX1_bringBack 30 = .ok (.return_, 1) := by decide +kernel
theorem dX1_moveOldestBehind_0 : decode cX1_moveOldestBehind 0 = .ok (.iconst 1, 1) := by decide +kernel
theorem dX1_moveOldestBehind_1 : decode cX1_moveOldestBehind 1 = .ok (.istore_n 1, 1) := by decide +kernel
theorem dX1_moveOldestBehind_2 : decode cX1_moveOldestBehind 2 = .ok (.iload_n 1, 1) := by decide +kernel
theorem dX1_moveOldestBehind_3 : decode cX1_moveOldestBehind 3 = .ok (.aload_n 0, 1) := by decide +kernel
theorem dX1_moveOldestBehind_4 : decode cX1_moveOldestBehind 4 = .ok (.getfield 11, 3) := by decide +kernel
theorem dX1_moveOldestBehind_7 : decode cX1_moveOldestBehind 7 = .ok (.arraylength, 1) := by decide +kernel
theorem dX1_moveOldestBehind_8 : decode cX1_moveOldestBehind 8 = .ok (.if_icmp .ge 39, 3) := by decide +kernel
theorem dX1_moveOldestBehind_11 : decode cX1_moveOldestBehind 11 = .ok (.aload_n 0, 1) := by decide +kernel
theorem dX1_moveOldestBehind_12 : decode cX1_moveOldestBehind 12 = .ok (.getfield 11, 3) := by decide +kernel
theorem dX1_moveOldestBehind_15 : decode cX1_moveOldestBehind 15 = .ok (.iload_n 1, 1) := by decide +kernel
theorem dX1_moveOldestBehind_16 : decode cX1_moveOldestBehind 16 = .ok (.iconst 1, 1) := by decide +kernel
theorem dX1_moveOldestBehind_17 : decode cX1_moveOldestBehind 17 = .ok (.isub, 1) := by decide +kernel
theorem dX1_moveOldestBehind_18 : decode cX1_moveOldestBehind 18 = .ok (.aaload, 1) := by decide +kernel
theorem dX1_moveOldestBehind_19 : decode cX1_moveOldestBehind 19 = .ok (.astore_n 2, 1) := by decide +kernel
theorem dX1_moveOldestBehind_20 : decode cX1_moveOldestBehind 20 = .ok (.aload_n 0, 1) := by decide +kernel
theorem dX1_moveOldestBehind_21 : decode cX1_moveOldestBehind 21 = .ok (.getfield 11, 3) := by decide +kernel
theorem dX1_moveOldestBehind_24 : decode cX1_moveOldestBehind 24 = .ok (.iload_n 1, 1) := by decide +kernel
theorem dX1_moveOldestBehind_25 : decode cX1_moveOldestBehind 25 = .ok (.iconst 1, 1) := by decide +kernel
theorem dX1_moveOldestBehind_26 : decode cX1_moveOldestBehind 26 = .ok (.isub, 1) := by decide +kernel
theorem dX1_moveOldestBehind_27 : decode cX1_moveOldestBehind 27 = .ok (.aload_n 0, 1) := by decide +kernel
theorem dX1_moveOldestBehind_28 : decode cX1_moveOldestBehind 28 = .ok (.getfield 11, 3) := by decide +kernel
theorem dX1_moveOldestBehind_31 : decode cX1_moveOldestBehind 31 = .ok (.iload_n 1, 1) := by decide +kernel
theorem dX1_moveOldestBehind_32 : decode cX1_moveOldestBehind 32 = .ok (.aaload, 1) := by decide +kernel
theorem dX1_moveOldestBehind_33 : decode cX1_moveOldestBehind 33 = .ok (.aastore, 1) := by decide +kernel
theorem dX1_moveOldestBehind_34 : decode cX1_moveOldestBehind 34 = .ok (.aload_n 0, 1) := by decide +kernel
theorem dX1_moveOldestBehind_35 : decode cX1_moveOldestBehind 35 = .ok (.getfield 11, 3) := by decide +kernel
theorem dX1_moveOldestBehind_38 : decode cX1_moveOldestBehind 38 = .ok (.iload_n 1, 1) := by decide +kernel
theorem dX1_moveOldestBehind_39 : decode cX1_moveOldestBehind 39 = .ok (.aload_n 2, 1) := by decide +kernel
theorem dX1_moveOldestBehind_40 : decode cX1_moveOldestBehind 40 = .ok (.aastore, 1) := by decide +kernel
theorem dX1_moveOldestBehind_41 : decode cX1_moveOldestBehind 41 = .ok (.iinc 1 1, 3) := by decide +kernel
theorem dX1_moveOldestBehind_44 : decode cX1_moveOldestBehind 44 = .ok (.goto (-42), 3) := by decide +kernel
theorem dX1_moveOldestBehind_47 : decode cX1_moveOldestBehind 47 = .ok (.return_, 1) := by decide +kernel
theorem dX1_boardAt_0 : decode cX1_boardAt 0 = .ok (.iload_n 1, 1) := by decide +kernel
theorem dX1_boardAt_1 : decode cX1_boardAt 1 = .ok (.ifCond .lt 21, 3) := by decide +kernel
theorem dX1_boardAt_4 : decode cX1_boardAt 4 = .ok (.iload_n 1, 1) := by decide +kernel
theorem dX1_boardAt_5 : decode cX1_boardAt 5 = .ok (.aload_n 0, 1) := by decide +kernel
theorem dX1_boardAt_6 : decode cX1_boardAt 6 = .ok (.getfield 11, 3) := by decide +kernel
theorem dX1_boardAt_9 : decode cX1_boardAt 9 = .ok (.arraylength, 1) := by decide +kernel
theorem dX1_boardAt_10 : decode cX1_boardAt 10 = .ok (.if_icmp .ge 12, 3) := by decide +kernel
theorem dX1_boardAt_13 : decode cX1_boardAt 13 = .ok (.aload_n 0, 1) := by decide +kernel
theorem dX1_boardAt_14 : decode cX1_boardAt 14 = .ok (.getfield 11, 3) := by decide +kernel
theorem dX1_boardAt_17 : decode cX1_boardAt 17 = .ok (.iload_n 1, 1) := by decide +kernel
theorem dX1_boardAt_18 : decode cX1_boardAt 18 = .ok (.aaload, 1) := by decide +kernel
theorem dX1_boardAt_19 : decode cX1_boardAt 19 = .ok (.goto 4, 3) := by decide +kernel
theorem dX1_boardAt_22 : decode cX1_boardAt 22 = .ok (.aconst_null, 1) := by decide +kernel
theorem dX1_boardAt_23 : decode cX1_boardAt 23 = .ok (.areturn, 1) := by decide +kernel
theorem dX2_init_0 : decode cX2_init 0 = .ok (.aload_n 0, 1) := by decide +kernel
theorem dX2_init_1 : decode cX2_init 1 = .ok (.invokespecial 3, 3) := by decide +kernel
theorem dX2_init_4 : decode cX2_init 4 = .ok (.aload_n 0, 1) := by decide +kernel
theorem dX2_init_5 : decode cX2_init 5 = .ok (.bipush 16, 2) := by decide +kernel
theorem dX2_init_7 : decode cX2_init 7 = .ok (.newarray .long, 2) := by decide +kernel
theorem dX2_init_9 : decode cX2_init 9 = .ok (.putfield 9, 3) := by decide +kernel
theorem dX2_init_12 : decode cX2_init 12 = .ok (.aload_n 0, 1) := by decide +kernel
theorem dX2_init_13 : decode cX2_init 13 = .ok (.iconst 4, 1) := by decide +kernel
theorem dX2_init_14 : decode cX2_init 14 = .ok (.newarray .boolean, 2) := by decide +kernel
theorem dX2_init_16 : decode cX2_init 16 = .ok (.putfield 15, 3) := by decide +kernel
theorem dX2_init_19 : decode cX2_init 19 = .ok (.aload_n 0, 1) := by decide +kernel
theorem dX2_init_20 : decode cX2_init 20 = .ok (.iconst 4, 1) := by decide +kernel
theorem dX2_init_21 : decode cX2_init 21 = .ok (.newarray .long, 2) := by decide +kernel
theorem dX2_init_23 : decode cX2_init 23 = .ok (.putfield 19, 3) := by decide +kernel
theorem dX2_init_26 : decode cX2_init 26 = .ok (.aload_n 0, 1) := by decide +kernel
theorem dX2_init_27 : decode cX2_init 27 = .ok (.iconst 4, 1) := by decide +kernel
theorem dX2_init_28 : decode cX2_init 28 = .ok (.newarray .long, 2) := by decide +kernel
theorem dX2_init_30 : decode cX2_init 30 = .ok (.putfield 22, 3) := by decide +kernel
theorem dX2_init_33 : decode cX2_init 33 = .ok (.return_, 1) := by decide +kernel
theorem dX2_forgetArm_0 : decode cX2_forgetArm 0 = .ok (.iload_n 1, 1) := by decide +kernel
theorem dX2_forgetArm_1 : decode cX2_forgetArm 1 = .ok (.ifCond .lt 19, 3) := by decide +kernel
theorem dX2_forgetArm_4 : decode cX2_forgetArm 4 = .ok (.iload_n 1, 1) := by decide +kernel
theorem dX2_forgetArm_5 : decode cX2_forgetArm 5 = .ok (.aload_n 0, 1) := by decide +kernel
theorem dX2_forgetArm_6 : decode cX2_forgetArm 6 = .ok (.getfield 15, 3) := by decide +kernel
theorem dX2_forgetArm_9 : decode cX2_forgetArm 9 = .ok (.arraylength, 1) := by decide +kernel
theorem dX2_forgetArm_10 : decode cX2_forgetArm 10 = .ok (.if_icmp .ge 10, 3) := by decide +kernel
theorem dX2_forgetArm_13 : decode cX2_forgetArm 13 = .ok (.aload_n 0, 1) := by decide +kernel
theorem dX2_forgetArm_14 : decode cX2_forgetArm 14 = .ok (.getfield 15, 3) := by decide +kernel
theorem dX2_forgetArm_17 : decode cX2_forgetArm 17 = .ok (.iload_n 1, 1) := by decide +kernel
theorem dX2_forgetArm_18 : decode cX2_forgetArm 18 = .ok (.iconst 0, 1) := by decide +kernel
theorem dX2_forgetArm_19 : decode cX2_forgetArm 19 = .ok (.bastore, 1) := by decide +kernel
theorem dX2_forgetArm_20 : decode cX2_forgetArm 20 = .ok (.return_, 1) := by decide +kernel
theorem dX2_forgetAll_0 : decode cX2_forgetAll 0 = .ok (.iconst 0, 1) := by decide +kernel
theorem dX2_forgetAll_1 : decode cX2_forgetAll 1 = .ok (.istore_n 1, 1) := by decide +kernel
theorem dX2_forgetAll_2 : decode cX2_forgetAll 2 = .ok (.iload_n 1, 1) := by decide +kernel
theorem dX2_forgetAll_3 : decode cX2_forgetAll 3 = .ok (.aload_n 0, 1) := by decide +kernel
theorem dX2_forgetAll_4 : decode cX2_forgetAll 4 = .ok (.getfield 15, 3) := by decide +kernel
theorem dX2_forgetAll_7 : decode cX2_forgetAll 7 = .ok (.arraylength, 1) := by decide +kernel
theorem dX2_forgetAll_8 : decode cX2_forgetAll 8 = .ok (.if_icmp .ge 16, 3) := by decide +kernel
theorem dX2_forgetAll_11 : decode cX2_forgetAll 11 = .ok (.aload_n 0, 1) := by decide +kernel
theorem dX2_forgetAll_12 : decode cX2_forgetAll 12 = .ok (.getfield 15, 3) := by decide +kernel
theorem dX2_forgetAll_15 : decode cX2_forgetAll 15 = .ok (.iload_n 1, 1) := by decide +kernel
theorem dX2_forgetAll_16 : decode cX2_forgetAll 16 = .ok (.iconst 0, 1) := by decide +kernel
theorem dX2_forgetAll_17 : decode cX2_forgetAll 17 = .ok (.bastore, 1) := by decide +kernel
theorem dX2_forgetAll_18 : decode cX2_forgetAll 18 = .ok (.iinc 1 1, 3) := by decide +kernel
theorem dX2_forgetAll_21 : decode cX2_forgetAll 21 = .ok (.goto (-19), 3) := by decide +kernel
theorem dX2_forgetAll_24 : decode cX2_forgetAll 24 = .ok (.return_, 1) := by decide +kernel
set_option maxRecDepth 20000 in
theorem ggX2_refresh_X4_slotOf : GoodIn wsX2_refresh wsX4_slotOf := goodIn_r _ [5] (by decide +kernel) (by decide +kernel)
set_option maxRecDepth 20000 in
theorem gX2_refresh_X4_slotOf_n25 : GoodIn wsX2_refresh (wsX4_slotOf) := ggX2_refresh_X4_slotOf
set_option maxRecDepth 20000 in
theorem ggX2_refresh_X2_find : GoodIn wsX2_refresh wsX2_find := goodIn_r _ [10, 11, 12, 4, 13, 14, 15, 16, 9, 17, 18, 19, 20, 21, 22, 23, 24, 25, 26, 27, 28, 29, 30, 31, 32, 33, 34, 3, 5, 35, 36, 37, 38, 39, 40, 41, 42, 43, 44, 45, 46, 51, 52, 53, 54, 55, 56, 57, 58, 59, 60, 61, 62, 47, 48, 49, 50] (by decide +kernel) (by decide +kernel)
set_option maxRecDepth 20000 in
theorem gX2_refresh_X2_find : GoodIn wsX2_refresh (wsV RX2 29 RX2 yX2_find wsX2_find) := goodIn_app (goodIn_of _ (by decide +kernel)) ggX2_refresh_X2_find
set_option maxRecDepth 20000 in
theorem ggX2_refresh_X4_store_ : GoodIn wsX2_refresh wsX4_store_ := goodIn_r _ [42] (by decide +kernel) (by decide +kernel)
set_option maxRecDepth 20000 in
theorem gX2_refresh_X4_store__n33 : GoodIn wsX2_refresh (wsX4_store_) := ggX2_refresh_X4_store_
theorem dX2_refresh_0 : decode cX2_refresh 0 = .ok (.iconst 0, 1) := by decide +kernel
theorem dX2_refresh_1 : decode cX2_refresh 1 = .ok (.istore_n 2, 1) := by decide +kernel
theorem dX2_refresh_2 : decode cX2_refresh 2 = .ok (.iload_n 2, 1) := by decide +kernel
theorem dX2_refresh_3 : decode cX2_refresh 3 = .ok (.aload_n 0, 1) := by decide +kernel
theorem dX2_refresh_4 : decode cX2_refresh 4 = .ok (.getfield 15, 3) := by decide +kernel
theorem dX2_refresh_7 : decode cX2_refresh 7 = .ok (.arraylength, 1) := by decide +kernel
theorem dX2_refresh_8 : decode cX2_refresh 8 = .ok (.if_icmp .ge 57, 3) := by decide +kernel
theorem dX2_refresh_11 : decode cX2_refresh 11 = .ok (.aload_n 0, 1) := by decide +kernel
theorem dX2_refresh_12 : decode cX2_refresh 12 = .ok (.getfield 15, 3) := by decide +kernel
theorem dX2_refresh_15 : decode cX2_refresh 15 = .ok (.iload_n 2, 1) := by decide +kernel
theorem dX2_refresh_16 : decode cX2_refresh 16 = .ok (.baload, 1) := by decide +kernel
theorem dX2_refresh_17 : decode cX2_refresh 17 = .ok (.ifCond .ne 42, 3) := by decide +kernel
theorem dX2_refresh_20 : decode cX2_refresh 20 = .ok (.iconst 0, 1) := by decide +kernel
theorem dX2_refresh_21 : decode cX2_refresh 21 = .ok (.istore_n 3, 1) := by decide +kernel
theorem dX2_refresh_22 : decode cX2_refresh 22 = .ok (.iload_n 3, 1) := by decide +kernel
theorem dX2_refresh_23 : decode cX2_refresh 23 = .ok (.iconst 4, 1) := by decide +kernel
theorem dX2_refresh_24 : decode cX2_refresh 24 = .ok (.if_icmp .ge 28, 3) := by decide +kernel
theorem dX2_refresh_27 : decode cX2_refresh 27 = .ok (.aload_n 0, 1) := by decide +kernel
theorem dX2_refresh_28 : decode cX2_refresh 28 = .ok (.getfield 9, 3) := by decide +kernel
theorem dX2_refresh_31 : decode cX2_refresh 31 = .ok (.iload_n 2, 1) := by decide +kernel
theorem dX2_refresh_32 : decode cX2_refresh 32 = .ok (.iload_n 3, 1) := by decide +kernel
theorem dX2_refresh_33 : decode cX2_refresh 33 = .ok (.invokestatic 25, 3) := by decide +kernel
theorem dX2_refresh_36 : decode cX2_refresh 36 = .ok (.aload_n 0, 1) := by decide +kernel
theorem dX2_refresh_37 : decode cX2_refresh 37 = .ok (.aload_n 1, 1) := by decide +kernel
theorem dX2_refresh_38 : decode cX2_refresh 38 = .ok (.iload_n 2, 1) := by decide +kernel
theorem dX2_refresh_39 : decode cX2_refresh 39 = .ok (.iload_n 3, 1) := by decide +kernel
theorem dX2_refresh_40 : decode cX2_refresh 40 = .ok (.invokevirtual 29, 3) := by decide +kernel
theorem dX2_refresh_43 : decode cX2_refresh 43 = .ok (.invokestatic 33, 3) := by decide +kernel
theorem dX2_refresh_46 : decode cX2_refresh 46 = .ok (.iinc 3 1, 3) := by decide +kernel
theorem dX2_refresh_49 : decode cX2_refresh 49 = .ok (.goto (-27), 3) := by decide +kernel
theorem dX2_refresh_52 : decode cX2_refresh 52 = .ok (.aload_n 0, 1) := by decide +kernel
theorem dX2_refresh_53 : decode cX2_refresh 53 = .ok (.getfield 15, 3) := by decide +kernel
theorem dX2_refresh_56 : decode cX2_refresh 56 = .ok (.iload_n 2, 1) := by decide +kernel
theorem dX2_refresh_57 : decode cX2_refresh 57 = .ok (.iconst 1, 1) := by decide +kernel
theorem dX2_refresh_58 : decode cX2_refresh 58 = .ok (.bastore, 1) := by decide +kernel
theorem dX2_refresh_59 : decode cX2_refresh 59 = .ok (.iinc 2 1, 3) := by decide +kernel
theorem dX2_refresh_62 : decode cX2_refresh 62 = .ok (.goto (-60), 3) := by decide +kernel
theorem dX2_refresh_65 : decode cX2_refresh 65 = .ok (.return_, 1) := by decide +kernel
set_option maxRecDepth 20000 in
theorem ggX2_find_X4_at : GoodIn wsX2_find wsX4_at := goodIn_r _ [4] (by decide +kernel) (by decide +kernel)
set_option maxRecDepth 20000 in
theorem gX2_find_X4_at_n43 : GoodIn wsX2_find (wsX4_at) := ggX2_find_X4_at
set_option maxRecDepth 20000 in
theorem ggX2_find_X2_clearValues : GoodIn wsX2_find wsX2_clearValues := goodIn_r _ [9, 10, 53, 54, 55, 56] (by decide +kernel) (by decide +kernel)
set_option maxRecDepth 20000 in
theorem gX2_find_X2_clearValues : GoodIn wsX2_find (wsV RX2 47 RX2 yX2_clearValues wsX2_clearValues) := goodIn_app (goodIn_of _ (by decide +kernel)) ggX2_find_X2_clearValues
set_option maxRecDepth 20000 in
theorem ggX2_find_X2_turn : GoodIn wsX2_find wsX2_turn := goodIn_r _ [14, 1, 15, 10, 16, 17, 18, 19, 20, 21, 22, 23, 24, 25, 26, 2, 3, 4, 27, 28, 29, 30, 31, 32, 33, 34, 35, 36, 41, 42, 43, 44, 45, 46, 47, 48, 49, 50, 51, 52, 53, 54, 55, 56] (by decide +kernel) (by decide +kernel)
set_option maxRecDepth 20000 in
theorem gX2_find_X2_turn : GoodIn wsX2_find (wsV RX2 50 RX2 yX2_turn wsX2_turn) := goodIn_app (goodIn_of _ (by decide +kernel)) ggX2_find_X2_turn
set_option maxRecDepth 20000 in
theorem ggX2_find_X2_indexNow : GoodIn wsX2_find wsX2_indexNow := goodIn_r _ [40, 19, 1, 10, 2, 3, 4, 29, 30, 31, 32, 33, 34, 41, 42, 43, 44, 45, 46, 47, 48, 49, 50, 51, 52, 53, 54, 55, 56] (by decide +kernel) (by decide +kernel)
set_option maxRecDepth 20000 in
theorem gX2_find_X2_indexNow : GoodIn wsX2_find (wsV RX2 54 RX2 yX2_indexNow wsX2_indexNow) := goodIn_app (goodIn_of _ (by decide +kernel)) ggX2_find_X2_indexNow
theorem dX2_find_0 : decode cX2_find 0 = .ok (.aload_n 1, 1) := by decide +kernel
theorem dX2_find_1 : decode cX2_find 1 = .ok (.getfield 37, 3) := by decide +kernel
theorem dX2_find_4 : decode cX2_find 4 = .ok (.iconst 1, 1) := by decide +kernel
theorem dX2_find_5 : decode cX2_find 5 = .ok (.invokestatic 43, 3) := by decide +kernel
theorem dX2_find_8 : decode cX2_find 8 = .ok (.istore 4, 2) := by decide +kernel
theorem dX2_find_10 : decode cX2_find 10 = .ok (.aload_n 0, 1) := by decide +kernel
theorem dX2_find_11 : decode cX2_find 11 = .ok (.invokevirtual 47, 3) := by decide +kernel
theorem dX2_find_14 : decode cX2_find 14 = .ok (.iconst 0, 1) := by decide +kernel
theorem dX2_find_15 : decode cX2_find 15 = .ok (.istore 5, 2) := by decide +kernel
theorem dX2_find_17 : decode cX2_find 17 = .ok (.iload 5, 2) := by decide +kernel
theorem dX2_find_19 : decode cX2_find 19 = .ok (.iload 4, 2) := by decide +kernel
theorem dX2_find_21 : decode cX2_find 21 = .ok (.if_icmp .ge 16, 3) := by decide +kernel
theorem dX2_find_24 : decode cX2_find 24 = .ok (.aload_n 0, 1) := by decide +kernel
theorem dX2_find_25 : decode cX2_find 25 = .ok (.aload_n 1, 1) := by decide +kernel
theorem dX2_find_26 : decode cX2_find 26 = .ok (.iload_n 2, 1) := by decide +kernel
theorem dX2_find_27 : decode cX2_find 27 = .ok (.iload_n 3, 1) := by decide +kernel
theorem dX2_find_28 : decode cX2_find 28 = .ok (.invokevirtual 50, 3) := by decide +kernel
theorem dX2_find_31 : decode cX2_find 31 = .ok (.iinc 5 1, 3) := by decide +kernel
theorem dX2_find_34 : decode cX2_find 34 = .ok (.goto (-17), 3) := by decide +kernel
theorem dX2_find_37 : decode cX2_find 37 = .ok (.aload_n 0, 1) := by decide +kernel
theorem dX2_find_38 : decode cX2_find 38 = .ok (.aload_n 1, 1) := by decide +kernel
theorem dX2_find_39 : decode cX2_find 39 = .ok (.iload_n 3, 1) := by decide +kernel
theorem dX2_find_40 : decode cX2_find 40 = .ok (.invokevirtual 54, 3) := by decide +kernel
theorem dX2_find_43 : decode cX2_find 43 = .ok (.lreturn, 1) := by decide +kernel
set_option maxRecDepth 20000 in
theorem ggX2_leastRounds_X4_at : GoodIn wsX2_leastRounds wsX4_at := goodIn_r _ [4] (by decide +kernel) (by decide +kernel)
set_option maxRecDepth 20000 in
theorem gX2_leastRounds_X4_at_n43 : GoodIn wsX2_leastRounds (wsX4_at) := ggX2_leastRounds_X4_at
set_option maxRecDepth 20000 in
theorem ggX2_leastRounds_X2_clearValues : GoodIn wsX2_leastRounds wsX2_clearValues := goodIn_r _ [9, 10, 53, 54, 55, 56] (by decide +kernel) (by decide +kernel)
set_option maxRecDepth 20000 in
theorem gX2_leastRounds_X2_clearValues : GoodIn wsX2_leastRounds (wsV RX2 47 RX2 yX2_clearValues wsX2_clearValues) := goodIn_app (goodIn_of _ (by decide +kernel)) ggX2_leastRounds_X2_clearValues
set_option maxRecDepth 20000 in
theorem ggX2_leastRounds_X2_turn : GoodIn wsX2_leastRounds wsX2_turn := goodIn_r _ [14, 1, 15, 10, 16, 17, 18, 19, 20, 21, 22, 23, 24, 25, 26, 2, 3, 4, 27, 28, 29, 30, 31, 32, 33, 34, 35, 36, 41, 42, 43, 44, 45, 46, 47, 48, 49, 50, 51, 52, 53, 54, 55, 56] (by decide +kernel) (by decide +kernel)
set_option maxRecDepth 20000 in
theorem gX2_leastRounds_X2_turn : GoodIn wsX2_leastRounds (wsV RX2 50 RX2 yX2_turn wsX2_turn) := goodIn_app (goodIn_of _ (by decide +kernel)) ggX2_leastRounds_X2_turn
set_option maxRecDepth 20000 in
theorem ggX2_leastRounds_X2_indexNow : GoodIn wsX2_leastRounds wsX2_indexNow := goodIn_r _ [40, 19, 1, 10, 2, 3, 4, 29, 30, 31, 32, 33, 34, 41, 42, 43, 44, 45, 46, 47, 48, 49, 50, 51, 52, 53, 54, 55, 56] (by decide +kernel) (by decide +kernel)
set_option maxRecDepth 20000 in
theorem gX2_leastRounds_X2_indexNow : GoodIn wsX2_leastRounds (wsV RX2 54 RX2 yX2_indexNow wsX2_indexNow) := goodIn_app (goodIn_of _ (by decide +kernel)) ggX2_leastRounds_X2_indexNow
theorem dX2_leastRounds_0 : decode cX2_leastRounds 0 = .ok (.aload_n 1, 1) := by decide +kernel
theorem dX2_leastRounds_1 : decode cX2_leastRounds 1 = .ok (.getfield 37, 3) := by decide +kernel
theorem dX2_leastRounds_4 : decode cX2_leastRounds 4 = .ok (.iconst 1, 1) := by decide +kernel
theorem dX2_leastRounds_5 : decode cX2_leastRounds 5 = .ok (.invokestatic 43, 3) := by decide +kernel
theorem dX2_leastRounds_8 : decode cX2_leastRounds 8 = .ok (.istore 6, 2) := by decide +kernel
theorem dX2_leastRounds_10 : decode cX2_leastRounds 10 = .ok (.aload_n 0, 1) := by decide +kernel
theorem dX2_leastRounds_11 : decode cX2_leastRounds 11 = .ok (.invokevirtual 47, 3) := by decide +kernel
theorem dX2_leastRounds_14 : decode cX2_leastRounds 14 = .ok (.iconst 1, 1) := by decide +kernel
theorem dX2_leastRounds_15 : decode cX2_leastRounds 15 = .ok (.istore 7, 2) := by decide +kernel
theorem dX2_leastRounds_17 : decode cX2_leastRounds 17 = .ok (.iload 7, 2) := by decide +kernel
theorem dX2_leastRounds_19 : decode cX2_leastRounds 19 = .ok (.iload 6, 2) := by decide +kernel
theorem dX2_leastRounds_21 : decode cX2_leastRounds 21 = .ok (.if_icmp .ge 31, 3) := by decide +kernel
theorem dX2_leastRounds_24 : decode cX2_leastRounds 24 = .ok (.aload_n 0, 1) := by decide +kernel
theorem dX2_leastRounds_25 : decode cX2_leastRounds 25 = .ok (.aload_n 1, 1) := by decide +kernel
theorem dX2_leastRounds_26 : decode cX2_leastRounds 26 = .ok (.iload_n 2, 1) := by decide +kernel
theorem dX2_leastRounds_27 : decode cX2_leastRounds 27 = .ok (.iload_n 3, 1) := by decide +kernel
theorem dX2_leastRounds_28 : decode cX2_leastRounds 28 = .ok (.invokevirtual 50, 3) := by decide +kernel
theorem dX2_leastRounds_31 : decode cX2_leastRounds 31 = .ok (.aload_n 0, 1) := by decide +kernel
theorem dX2_leastRounds_32 : decode cX2_leastRounds 32 = .ok (.aload_n 1, 1) := by decide +kernel
theorem dX2_leastRounds_33 : decode cX2_leastRounds 33 = .ok (.iload_n 3, 1) := by decide +kernel
theorem dX2_leastRounds_34 : decode cX2_leastRounds 34 = .ok (.invokevirtual 54, 3) := by decide +kernel
theorem dX2_leastRounds_37 : decode cX2_leastRounds 37 = .ok (.lload 4, 2) := by decide +kernel
theorem dX2_leastRounds_39 : decode cX2_leastRounds 39 = .ok (.lcmp, 1) := by decide +kernel
theorem dX2_leastRounds_40 : decode cX2_leastRounds 40 = .ok (.ifCond .ne 6, 3) := by decide +kernel
theorem dX2_leastRounds_43 : decode cX2_leastRounds 43 = .ok (.iload 7, 2) := by decide +kernel
theorem dX2_leastRounds_45 : decode cX2_leastRounds 45 = .ok (.ireturn, 1) := by decide +kernel
theorem dX2_leastRounds_46 : decode cX2_leastRounds 46 = .ok (.iinc 7 1, 3) := by decide +kernel
theorem dX2_leastRounds_49 : decode cX2_leastRounds 49 = .ok (.goto (-32), 3) := by decide +kernel
theorem dX2_leastRounds_52 : decode cX2_leastRounds 52 = .ok (.iload 6, 2) := by decide +kernel
theorem dX2_leastRounds_54 : decode cX2_leastRounds 54 = .ok (.ireturn, 1) := by decide +kernel
theorem dX2_clearValues_0 : decode cX2_clearValues 0 = .ok (.iconst 0, 1) := by decide +kernel
theorem dX2_clearValues_1 : decode cX2_clearValues 1 = .ok (.istore_n 1, 1) := by decide +kernel
theorem dX2_clearValues_2 : decode cX2_clearValues 2 = .ok (.iload_n 1, 1) := by decide +kernel
theorem dX2_clearValues_3 : decode cX2_clearValues 3 = .ok (.aload_n 0, 1) := by decide +kernel
theorem dX2_clearValues_4 : decode cX2_clearValues 4 = .ok (.getfield 19, 3) := by decide +kernel
theorem dX2_clearValues_7 : decode cX2_clearValues 7 = .ok (.arraylength, 1) := by decide +kernel
theorem dX2_clearValues_8 : decode cX2_clearValues 8 = .ok (.if_icmp .ge 16, 3) := by decide +kernel
theorem dX2_clearValues_11 : decode cX2_clearValues 11 = .ok (.aload_n 0, 1) := by decide +kernel
theorem dX2_clearValues_12 : decode cX2_clearValues 12 = .ok (.getfield 19, 3) := by decide +kernel
theorem dX2_clearValues_15 : decode cX2_clearValues 15 = .ok (.iload_n 1, 1) := by decide +kernel
theorem dX2_clearValues_16 : decode cX2_clearValues 16 = .ok (.lconst 0, 1) := by decide +kernel
theorem dX2_clearValues_17 : decode cX2_clearValues 17 = .ok (.lastore, 1) := by decide +kernel
theorem dX2_clearValues_18 : decode cX2_clearValues 18 = .ok (.iinc 1 1, 3) := by decide +kernel
theorem dX2_clearValues_21 : decode cX2_clearValues 21 = .ok (.goto (-19), 3) := by decide +kernel
theorem dX2_clearValues_24 : decode cX2_clearValues 24 = .ok (.return_, 1) := by decide +kernel
set_option maxRecDepth 20000 in
theorem ggX2_turn_X4_at : GoodIn wsX2_turn wsX4_at := goodIn_r _ [17] (by decide +kernel) (by decide +kernel)
set_option maxRecDepth 20000 in
theorem gX2_turn_X4_at_n43 : GoodIn wsX2_turn (wsX4_at) := ggX2_turn_X4_at
set_option maxRecDepth 20000 in
theorem ggX2_turn_X4_slotOf : GoodIn wsX2_turn wsX4_slotOf := goodIn_r _ [19] (by decide +kernel) (by decide +kernel)
set_option maxRecDepth 20000 in
theorem gX2_turn_X4_slotOf_n25 : GoodIn wsX2_turn (wsX4_slotOf) := ggX2_turn_X4_slotOf
set_option maxRecDepth 20000 in
theorem ggX2_turn_X4_at_ : GoodIn wsX2_turn wsX4_at_ := goodIn_r _ [21] (by decide +kernel) (by decide +kernel)
set_option maxRecDepth 20000 in
theorem gX2_turn_X4_at__n64 : GoodIn wsX2_turn (wsX4_at_) := ggX2_turn_X4_at_
set_option maxRecDepth 20000 in
theorem ggX2_turn_J9_floorDiv_f86c9 : GoodIn wsX2_turn wsJ9_floorDiv_f86c9 := goodIn_r _ [25] (by decide +kernel) (by decide +kernel)
set_option maxRecDepth 20000 in
theorem gX2_turn_J9_floorDiv_f86c9 : GoodIn wsX2_turn (va_wsS RX2 72 yJ9_floorDiv_f86c9 wsJ9_floorDiv_f86c9) := goodIn_app (goodIn_of _ (by decide +kernel)) ggX2_turn_J9_floorDiv_f86c9
set_option maxRecDepth 20000 in
theorem ggX2_turn_X4_store_ : GoodIn wsX2_turn wsX4_store_ := goodIn_r _ [27] (by decide +kernel) (by decide +kernel)
set_option maxRecDepth 20000 in
theorem gX2_turn_X4_store__n33 : GoodIn wsX2_turn (wsX4_store_) := ggX2_turn_X4_store_
theorem dX2_turn_0 : decode cX2_turn 0 = .ok (.aload_n 1, 1) := by decide +kernel
theorem dX2_turn_1 : decode cX2_turn 1 = .ok (.getfield 37, 3) := by decide +kernel
theorem dX2_turn_4 : decode cX2_turn 4 = .ok (.iconst 0, 1) := by decide +kernel
theorem dX2_turn_5 : decode cX2_turn 5 = .ok (.invokestatic 43, 3) := by decide +kernel
theorem dX2_turn_8 : decode cX2_turn 8 = .ok (.i2l, 1) := by decide +kernel
theorem dX2_turn_9 : decode cX2_turn 9 = .ok (.lstore 4, 2) := by decide +kernel
theorem dX2_turn_11 : decode cX2_turn 11 = .ok (.iconst 0, 1) := by decide +kernel
theorem dX2_turn_12 : decode cX2_turn 12 = .ok (.istore 6, 2) := by decide +kernel
theorem dX2_turn_14 : decode cX2_turn 14 = .ok (.iload 6, 2) := by decide +kernel
theorem dX2_turn_16 : decode cX2_turn 16 = .ok (.iconst 4, 1) := by decide +kernel
theorem dX2_turn_17 : decode cX2_turn 17 = .ok (.if_icmp .ge 127, 3) := by decide +kernel
theorem dX2_turn_20 : decode cX2_turn 20 = .ok (.iload_n 2, 1) := by decide +kernel
theorem dX2_turn_21 : decode cX2_turn 21 = .ok (.iload 6, 2) := by decide +kernel
theorem dX2_turn_23 : decode cX2_turn 23 = .ok (.invokestatic 25, 3) := by decide +kernel
theorem dX2_turn_26 : decode cX2_turn 26 = .ok (.istore 7, 2) := by decide +kernel
theorem dX2_turn_28 : decode cX2_turn 28 = .ok (.aload_n 1, 1) := by decide +kernel
theorem dX2_turn_29 : decode cX2_turn 29 = .ok (.getfield 58, 3) := by decide +kernel
theorem dX2_turn_32 : decode cX2_turn 32 = .ok (.iload 7, 2) := by decide +kernel
theorem dX2_turn_34 : decode cX2_turn 34 = .ok (.invokestatic 43, 3) := by decide +kernel
theorem dX2_turn_37 : decode cX2_turn 37 = .ok (.i2l, 1) := by decide +kernel
theorem dX2_turn_38 : decode cX2_turn 38 = .ok (.lstore 8, 2) := by decide +kernel
theorem dX2_turn_40 : decode cX2_turn 40 = .ok (.aload_n 0, 1) := by decide +kernel
theorem dX2_turn_41 : decode cX2_turn 41 = .ok (.getfield 19, 3) := by decide +kernel
theorem dX2_turn_44 : decode cX2_turn 44 = .ok (.aload_n 1, 1) := by decide +kernel
theorem dX2_turn_45 : decode cX2_turn 45 = .ok (.getfield 61, 3) := by decide +kernel
theorem dX2_turn_48 : decode cX2_turn 48 = .ok (.iload 7, 2) := by decide +kernel
theorem dX2_turn_50 : decode cX2_turn 50 = .ok (.invokestatic 43, 3) := by decide +kernel
theorem dX2_turn_53 : decode cX2_turn 53 = .ok (.invokestatic 64, 3) := by decide +kernel
theorem dX2_turn_56 : decode cX2_turn 56 = .ok (.lstore 10, 2) := by decide +kernel
theorem dX2_turn_58 : decode cX2_turn 58 = .ok (.aload_n 0, 1) := by decide +kernel
theorem dX2_turn_59 : decode cX2_turn 59 = .ok (.getfield 19, 3) := by decide +kernel
theorem dX2_turn_62 : decode cX2_turn 62 = .ok (.aload_n 1, 1) := by decide +kernel
theorem dX2_turn_63 : decode cX2_turn 63 = .ok (.getfield 67, 3) := by decide +kernel
theorem dX2_turn_66 : decode cX2_turn 66 = .ok (.iload 7, 2) := by decide +kernel
theorem dX2_turn_68 : decode cX2_turn 68 = .ok (.invokestatic 43, 3) := by decide +kernel
theorem dX2_turn_71 : decode cX2_turn 71 = .ok (.invokestatic 64, 3) := by decide +kernel
theorem dX2_turn_74 : decode cX2_turn 74 = .ok (.lstore 12, 2) := by decide +kernel
theorem dX2_turn_76 : decode cX2_turn 76 = .ok (.lload 8, 2) := by decide +kernel
theorem dX2_turn_78 : decode cX2_turn 78 = .ok (.lload 10, 2) := by decide +kernel
theorem dX2_turn_80 : decode cX2_turn 80 = .ok (.lmul, 1) := by decide +kernel
theorem dX2_turn_81 : decode cX2_turn 81 = .ok (.ldc2_w 70, 3) := by decide +kernel
theorem dX2_turn_84 : decode cX2_turn 84 = .ok (.lload 8, 2) := by decide +kernel
theorem dX2_turn_86 : decode cX2_turn 86 = .ok (.lsub, 1) := by decide +kernel
theorem dX2_turn_87 : decode cX2_turn 87 = .ok (.lload 12, 2) := by decide +kernel
theorem dX2_turn_89 : decode cX2_turn 89 = .ok (.lmul, 1) := by decide +kernel
theorem dX2_turn_90 : decode cX2_turn 90 = .ok (.ladd, 1) := by decide +kernel
theorem dX2_turn_91 : decode cX2_turn 91 = .ok (.ldc2_w 70, 3) := by decide +kernel
theorem dX2_turn_94 : decode cX2_turn 94 = .ok (.invokestatic 72, 3) := by decide +kernel
theorem dX2_turn_97 : decode cX2_turn 97 = .ok (.lstore 14, 2) := by decide +kernel
theorem dX2_turn_99 : decode cX2_turn 99 = .ok (.lload 4, 2) := by decide +kernel
theorem dX2_turn_101 : decode cX2_turn 101 = .ok (.lload 14, 2) := by decide +kernel
theorem dX2_turn_103 : decode cX2_turn 103 = .ok (.lmul, 1) := by decide +kernel
theorem dX2_turn_104 : decode cX2_turn 104 = .ok (.ldc2_w 78, 3) := by decide +kernel
theorem dX2_turn_107 : decode cX2_turn 107 = .ok (.invokestatic 72, 3) := by decide +kernel
theorem dX2_turn_110 : decode cX2_turn 110 = .ok (.lstore 16, 2) := by decide +kernel
theorem dX2_turn_112 : decode cX2_turn 112 = .ok (.aload_n 0, 1) := by decide +kernel
theorem dX2_turn_113 : decode cX2_turn 113 = .ok (.getfield 22, 3) := by decide +kernel
theorem dX2_turn_116 : decode cX2_turn 116 = .ok (.iload 6, 2) := by decide +kernel
theorem dX2_turn_118 : decode cX2_turn 118 = .ok (.ldc2_w 80, 3) := by decide +kernel
theorem dX2_turn_121 : decode cX2_turn 121 = .ok (.aload_n 1, 1) := by decide +kernel
theorem dX2_turn_122 : decode cX2_turn 122 = .ok (.getfield 82, 3) := by decide +kernel
theorem dX2_turn_125 : decode cX2_turn 125 = .ok (.iload 7, 2) := by decide +kernel
theorem dX2_turn_127 : decode cX2_turn 127 = .ok (.invokestatic 43, 3) := by decide +kernel
theorem dX2_turn_130 : decode cX2_turn 130 = .ok (.i2l, 1) := by decide +kernel
theorem dX2_turn_131 : decode cX2_turn 131 = .ok (.lmul, 1) := by decide +kernel
theorem dX2_turn_132 : decode cX2_turn 132 = .ok (.lload 16, 2) := by decide +kernel
theorem dX2_turn_134 : decode cX2_turn 134 = .ok (.ladd, 1) := by decide +kernel
theorem dX2_turn_135 : decode cX2_turn 135 = .ok (.invokestatic 33, 3) := by decide +kernel
theorem dX2_turn_138 : decode cX2_turn 138 = .ok (.iinc 6 1, 3) := by decide +kernel
theorem dX2_turn_141 : decode cX2_turn 141 = .ok (.goto (-127), 3) := by decide +kernel
theorem dX2_turn_144 : decode cX2_turn 144 = .ok (.aload_n 0, 1) := by decide +kernel
theorem dX2_turn_145 : decode cX2_turn 145 = .ok (.getfield 22, 3) := by decide +kernel
theorem dX2_turn_148 : decode cX2_turn 148 = .ok (.iload_n 3, 1) := by decide +kernel
theorem dX2_turn_149 : decode cX2_turn 149 = .ok (.invokestatic 64, 3) := by decide +kernel
theorem dX2_turn_152 : decode cX2_turn 152 = .ok (.lstore 6, 2) := by decide +kernel
theorem dX2_turn_154 : decode cX2_turn 154 = .ok (.iconst 0, 1) := by decide +kernel
theorem dX2_turn_155 : decode cX2_turn 155 = .ok (.istore 8, 2) := by decide +kernel
theorem dX2_turn_157 : decode cX2_turn 157 = .ok (.iload 8, 2) := by decide +kernel
theorem dX2_turn_159 : decode cX2_turn 159 = .ok (.iconst 4, 1) := by decide +kernel
theorem dX2_turn_160 : decode cX2_turn 160 = .ok (.if_icmp .ge 32, 3) := by decide +kernel
theorem dX2_turn_163 : decode cX2_turn 163 = .ok (.aload_n 0, 1) := by decide +kernel
theorem dX2_turn_164 : decode cX2_turn 164 = .ok (.getfield 19, 3) := by decide +kernel
theorem dX2_turn_167 : decode cX2_turn 167 = .ok (.iload 8, 2) := by decide +kernel
theorem dX2_turn_169 : decode cX2_turn 169 = .ok (.aload_n 0, 1) := by decide +kernel
theorem dX2_turn_170 : decode cX2_turn 170 = .ok (.getfield 22, 3) := by decide +kernel
theorem dX2_turn_173 : decode cX2_turn 173 = .ok (.iload 8, 2) := by decide +kernel
theorem dX2_turn_175 : decode cX2_turn 175 = .ok (.invokestatic 64, 3) := by decide +kernel
theorem dX2_turn_178 : decode cX2_turn 178 = .ok (.lload 6, 2) := by decide +kernel
theorem dX2_turn_180 : decode cX2_turn 180 = .ok (.invokestatic 85, 3) := by decide +kernel
theorem dX2_turn_183 : decode cX2_turn 183 = .ok (.invokestatic 33, 3) := by decide +kernel
theorem dX2_turn_186 : decode cX2_turn 186 = .ok (.iinc 8 1, 3) := by decide +kernel
theorem dX2_turn_189 : decode cX2_turn 189 = .ok (.goto (-32), 3) := by decide +kernel
theorem dX2_turn_192 : decode cX2_turn 192 = .ok (.return_, 1) := by decide +kernel
set_option maxRecDepth 20000 in
theorem ggX2_indexNow_X4_at : GoodIn wsX2_indexNow wsX4_at := goodIn_r _ [6] (by decide +kernel) (by decide +kernel)
set_option maxRecDepth 20000 in
theorem gX2_indexNow_X4_at_n43 : GoodIn wsX2_indexNow (wsX4_at) := ggX2_indexNow_X4_at
set_option maxRecDepth 20000 in
theorem ggX2_indexNow_X4_at_ : GoodIn wsX2_indexNow wsX4_at_ := goodIn_r _ [8] (by decide +kernel) (by decide +kernel)
set_option maxRecDepth 20000 in
theorem gX2_indexNow_X4_at__n64 : GoodIn wsX2_indexNow (wsX4_at_) := ggX2_indexNow_X4_at_
set_option maxRecDepth 20000 in
theorem ggX2_indexNow_J9_floorDiv_f86c9 : GoodIn wsX2_indexNow wsJ9_floorDiv_f86c9 := goodIn_r _ [12] (by decide +kernel) (by decide +kernel)
set_option maxRecDepth 20000 in
theorem gX2_indexNow_J9_floorDiv_f86c9 : GoodIn wsX2_indexNow (va_wsS RX2 72 yJ9_floorDiv_f86c9 wsJ9_floorDiv_f86c9) := goodIn_app (goodIn_of _ (by decide +kernel)) ggX2_indexNow_J9_floorDiv_f86c9
theorem dX2_indexNow_0 : decode cX2_indexNow 0 = .ok (.ldc2_w 78, 3) := by decide +kernel
theorem dX2_indexNow_3 : decode cX2_indexNow 3 = .ok (.aload_n 1, 1) := by decide +kernel
theorem dX2_indexNow_4 : decode cX2_indexNow 4 = .ok (.getfield 37, 3) := by decide +kernel
theorem dX2_indexNow_7 : decode cX2_indexNow 7 = .ok (.iconst 0, 1) := by decide +kernel
theorem dX2_indexNow_8 : decode cX2_indexNow 8 = .ok (.invokestatic 43, 3) := by decide +kernel
theorem dX2_indexNow_11 : decode cX2_indexNow 11 = .ok (.i2l, 1) := by decide +kernel
theorem dX2_indexNow_12 : decode cX2_indexNow 12 = .ok (.lsub, 1) := by decide +kernel
theorem dX2_indexNow_13 : decode cX2_indexNow 13 = .ok (.aload_n 0, 1) := by decide +kernel
theorem dX2_indexNow_14 : decode cX2_indexNow 14 = .ok (.getfield 19, 3) := by decide +kernel
theorem dX2_indexNow_17 : decode cX2_indexNow 17 = .ok (.iload_n 2, 1) := by decide +kernel
theorem dX2_indexNow_18 : decode cX2_indexNow 18 = .ok (.invokestatic 64, 3) := by decide +kernel
theorem dX2_indexNow_21 : decode cX2_indexNow 21 = .ok (.lmul, 1) := by decide +kernel
theorem dX2_indexNow_22 : decode cX2_indexNow 22 = .ok (.ldc2_w 78, 3) := by decide +kernel
theorem dX2_indexNow_25 : decode cX2_indexNow 25 = .ok (.invokestatic 72, 3) := by decide +kernel
theorem dX2_indexNow_28 : decode cX2_indexNow 28 = .ok (.lreturn, 1) := by decide +kernel
theorem dX3_init_0 : decode cX3_init 0 = .ok (.aload_n 0, 1) := by decide +kernel
theorem dX3_init_1 : decode cX3_init 1 = .ok (.invokespecial 3, 3) := by decide +kernel
theorem dX3_init_4 : decode cX3_init 4 = .ok (.aload_n 0, 1) := by decide +kernel
theorem dX3_init_5 : decode cX3_init 5 = .ok (.bipush 60, 2) := by decide +kernel
theorem dX3_init_7 : decode cX3_init 7 = .ok (.newarray .int, 2) := by decide +kernel
theorem dX3_init_9 : decode cX3_init 9 = .ok (.putfield 9, 3) := by decide +kernel
theorem dX3_init_12 : decode cX3_init 12 = .ok (.return_, 1) := by decide +kernel
theorem dX4_isWithin_0 : decode cX4_isWithin 0 = .ok (.iload_n 0, 1) := by decide +kernel
theorem dX4_isWithin_1 : decode cX4_isWithin 1 = .ok (.iload_n 1, 1) := by decide +kernel
theorem dX4_isWithin_2 : decode cX4_isWithin 2 = .ok (.if_icmp .lt 12, 3) := by decide +kernel
theorem dX4_isWithin_5 : decode cX4_isWithin 5 = .ok (.iload_n 0, 1) := by decide +kernel
theorem dX4_isWithin_6 : decode cX4_isWithin 6 = .ok (.iload_n 2, 1) := by decide +kernel
theorem dX4_isWithin_7 : decode cX4_isWithin 7 = .ok (.if_icmp .gt 7, 3) := by decide +kernel
theorem dX4_isWithin_10 : decode cX4_isWithin 10 = .ok (.iconst 1, 1) := by decide +kernel
theorem dX4_isWithin_11 : decode cX4_isWithin 11 = .ok (.goto 4, 3) := by decide +kernel
theorem dX4_isWithin_14 : decode cX4_isWithin 14 = .ok (.iconst 0, 1) := by decide +kernel
theorem dX4_isWithin_15 : decode cX4_isWithin 15 = .ok (.ireturn, 1) := by decide +kernel
theorem dX4_slotOf_0 : decode cX4_slotOf 0 = .ok (.iload_n 0, 1) := by decide +kernel
theorem dX4_slotOf_1 : decode cX4_slotOf 1 = .ok (.iconst 4, 1) := by decide +kernel
theorem dX4_slotOf_2 : decode cX4_slotOf 2 = .ok (.imul, 1) := by decide +kernel
theorem dX4_slotOf_3 : decode cX4_slotOf 3 = .ok (.iload_n 1, 1) := by decide +kernel
theorem dX4_slotOf_4 : decode cX4_slotOf 4 = .ok (.iadd, 1) := by decide +kernel
theorem dX4_slotOf_5 : decode cX4_slotOf 5 = .ok (.ireturn, 1) := by decide +kernel
theorem dX4_at_0 : decode cX4_at 0 = .ok (.iload_n 1, 1) := by decide +kernel
theorem dX4_at_1 : decode cX4_at 1 = .ok (.ifCond .lt 15, 3) := by decide +kernel
theorem dX4_at_4 : decode cX4_at 4 = .ok (.iload_n 1, 1) := by decide +kernel
theorem dX4_at_5 : decode cX4_at 5 = .ok (.aload_n 0, 1) := by decide +kernel
theorem dX4_at_6 : decode cX4_at 6 = .ok (.arraylength, 1) := by decide +kernel
theorem dX4_at_7 : decode cX4_at 7 = .ok (.if_icmp .ge 9, 3) := by decide +kernel
theorem dX4_at_10 : decode cX4_at 10 = .ok (.aload_n 0, 1) := by decide +kernel
theorem dX4_at_11 : decode cX4_at 11 = .ok (.iload_n 1, 1) := by decide +kernel
theorem dX4_at_12 : decode cX4_at 12 = .ok (.iaload, 1) := by decide +kernel
theorem dX4_at_13 : decode cX4_at 13 = .ok (.goto 4, 3) := by decide +kernel
theorem dX4_at_16 : decode cX4_at 16 = .ok (.iconst 0, 1) := by decide +kernel
theorem dX4_at_17 : decode cX4_at 17 = .ok (.ireturn, 1) := by decide +kernel
theorem dX4_at__0 : decode cX4_at_ 0 = .ok (.iload_n 1, 1) := by decide +kernel
theorem dX4_at__1 : decode cX4_at_ 1 = .ok (.ifCond .lt 15, 3) := by decide +kernel
theorem dX4_at__4 : decode cX4_at_ 4 = .ok (.iload_n 1, 1) := by decide +kernel
theorem dX4_at__5 : decode cX4_at_ 5 = .ok (.aload_n 0, 1) := by decide +kernel
theorem dX4_at__6 : decode cX4_at_ 6 = .ok (.arraylength, 1) := by decide +kernel
theorem dX4_at__7 : decode cX4_at_ 7 = .ok (.if_icmp .ge 9, 3) := by decide +kernel
theorem dX4_at__10 : decode cX4_at_ 10 = .ok (.aload_n 0, 1) := by decide +kernel
theorem dX4_at__11 : decode cX4_at_ 11 = .ok (.iload_n 1, 1) := by decide +kernel
theorem dX4_at__12 : decode cX4_at_ 12 = .ok (.laload, 1) := by decide +kernel
theorem dX4_at__13 : decode cX4_at_ 13 = .ok (.goto 4, 3) := by decide +kernel
theorem dX4_at__16 : decode cX4_at_ 16 = .ok (.lconst 0, 1) := by decide +kernel
theorem dX4_at__17 : decode cX4_at_ 17 = .ok (.lreturn, 1) := by decide +kernel
theorem dX4_store_0 : decode cX4_store 0 = .ok (.iload_n 1, 1) := by decide +kernel
theorem dX4_store_1 : decode cX4_store 1 = .ok (.ifCond .lt 13, 3) := by decide +kernel
theorem dX4_store_4 : decode cX4_store 4 = .ok (.iload_n 1, 1) := by decide +kernel
theorem dX4_store_5 : decode cX4_store 5 = .ok (.aload_n 0, 1) := by decide +kernel
theorem dX4_store_6 : decode cX4_store 6 = .ok (.arraylength, 1) := by decide +kernel
theorem dX4_store_7 : decode cX4_store 7 = .ok (.if_icmp .ge 7, 3) := by decide +kernel
theorem dX4_store_10 : decode cX4_store 10 = .ok (.aload_n 0, 1) := by decide +kernel
theorem dX4_store_11 : decode cX4_store 11 = .ok (.iload_n 1, 1) := by decide +kernel
theorem dX4_store_12 : decode cX4_store 12 = .ok (.iload_n 2, 1) := by decide +kernel
theorem dX4_store_13 : decode cX4_store 13 = .ok (.iastore, 1) := by decide +kernel
theorem dX4_store_14 : decode cX4_store 14 = .ok (.return_, 1) := by decide +kernel
theorem dX4_store__0 : decode cX4_store_ 0 = .ok (.iload_n 1, 1) := by decide +kernel
theorem dX4_store__1 : decode cX4_store_ 1 = .ok (.ifCond .lt 13, 3) := by decide +kernel
theorem dX4_store__4 : decode cX4_store_ 4 = .ok (.iload_n 1, 1) := by decide +kernel
theorem dX4_store__5 : decode cX4_store_ 5 = .ok (.aload_n 0, 1) := by decide +kernel
theorem dX4_store__6 : decode cX4_store_ 6 = .ok (.arraylength, 1) := by decide +kernel
theorem dX4_store__7 : decode cX4_store_ 7 = .ok (.if_icmp .ge 7, 3) := by decide +kernel
theorem dX4_store__10 : decode cX4_store_ 10 = .ok (.aload_n 0, 1) := by decide +kernel
theorem dX4_store__11 : decode cX4_store_ 11 = .ok (.iload_n 1, 1) := by decide +kernel
theorem dX4_store__12 : decode cX4_store_ 12 = .ok (.lload_n 2, 1) := by decide +kernel
theorem dX4_store__13 : decode cX4_store_ 13 = .ok (.lastore, 1) := by decide +kernel
theorem dX4_store__14 : decode cX4_store_ 14 = .ok (.return_, 1) := by decide +kernel
theorem dJ9_floorDiv_f86c9_0 : decode cJ9_floorDiv_f86c9 0 = .ok (.lload_n 0, 1) := by decide +kernel
theorem dJ9_floorDiv_f86c9_1 : decode cJ9_floorDiv_f86c9 1 = .ok (.lload_n 2, 1) := by decide +kernel
theorem dJ9_floorDiv_f86c9_2 : decode cJ9_floorDiv_f86c9 2 = .ok (.ldiv, 1) := by decide +kernel
theorem dJ9_floorDiv_f86c9_3 : decode cJ9_floorDiv_f86c9 3 = .ok (.lstore 4, 2) := by decide +kernel
theorem dJ9_floorDiv_f86c9_5 : decode cJ9_floorDiv_f86c9 5 = .ok (.lload_n 0, 1) := by decide +kernel
theorem dJ9_floorDiv_f86c9_6 : decode cJ9_floorDiv_f86c9 6 = .ok (.lload_n 2, 1) := by decide +kernel
theorem dJ9_floorDiv_f86c9_7 : decode cJ9_floorDiv_f86c9 7 = .ok (.lxor, 1) := by decide +kernel
theorem dJ9_floorDiv_f86c9_8 : decode cJ9_floorDiv_f86c9 8 = .ok (.lconst 0, 1) := by decide +kernel
theorem dJ9_floorDiv_f86c9_9 : decode cJ9_floorDiv_f86c9 9 = .ok (.lcmp, 1) := by decide +kernel
theorem dJ9_floorDiv_f86c9_10 : decode cJ9_floorDiv_f86c9 10 = .ok (.ifCond .ge 17, 3) := by decide +kernel
theorem dJ9_floorDiv_f86c9_13 : decode cJ9_floorDiv_f86c9 13 = .ok (.lload 4, 2) := by decide +kernel
theorem dJ9_floorDiv_f86c9_15 : decode cJ9_floorDiv_f86c9 15 = .ok (.lload_n 2, 1) := by decide +kernel
theorem dJ9_floorDiv_f86c9_16 : decode cJ9_floorDiv_f86c9 16 = .ok (.lmul, 1) := by decide +kernel
theorem dJ9_floorDiv_f86c9_17 : decode cJ9_floorDiv_f86c9 17 = .ok (.lload_n 0, 1) := by decide +kernel
theorem dJ9_floorDiv_f86c9_18 : decode cJ9_floorDiv_f86c9 18 = .ok (.lcmp, 1) := by decide +kernel
theorem dJ9_floorDiv_f86c9_19 : decode cJ9_floorDiv_f86c9 19 = .ok (.ifCond .eq 8, 3) := by decide +kernel
theorem dJ9_floorDiv_f86c9_22 : decode cJ9_floorDiv_f86c9 22 = .ok (.lload 4, 2) := by decide +kernel
theorem dJ9_floorDiv_f86c9_24 : decode cJ9_floorDiv_f86c9 24 = .ok (.lconst 1, 1) := by decide +kernel
theorem dJ9_floorDiv_f86c9_25 : decode cJ9_floorDiv_f86c9 25 = .ok (.lsub, 1) := by decide +kernel
theorem dJ9_floorDiv_f86c9_26 : decode cJ9_floorDiv_f86c9 26 = .ok (.lreturn, 1) := by decide +kernel
theorem dJ9_floorDiv_f86c9_27 : decode cJ9_floorDiv_f86c9 27 = .ok (.lload 4, 2) := by decide +kernel
theorem dJ9_floorDiv_f86c9_29 : decode cJ9_floorDiv_f86c9 29 = .ok (.lreturn, 1) := by decide +kernel
theorem dJ9_max_7cf53_0 : decode cJ9_max_7cf53 0 = .ok (.iload_n 0, 1) := by decide +kernel
theorem dJ9_max_7cf53_1 : decode cJ9_max_7cf53 1 = .ok (.iload_n 1, 1) := by decide +kernel
theorem dJ9_max_7cf53_2 : decode cJ9_max_7cf53 2 = .ok (.if_icmp .lt 7, 3) := by decide +kernel
theorem dJ9_max_7cf53_5 : decode cJ9_max_7cf53 5 = .ok (.iload_n 0, 1) := by decide +kernel
theorem dJ9_max_7cf53_6 : decode cJ9_max_7cf53 6 = .ok (.goto 4, 3) := by decide +kernel
theorem dJ9_max_7cf53_9 : decode cJ9_max_7cf53 9 = .ok (.iload_n 1, 1) := by decide +kernel
theorem dJ9_max_7cf53_10 : decode cJ9_max_7cf53 10 = .ok (.ireturn, 1) := by decide +kernel
theorem dJ9_max_f86c9_0 : decode cJ9_max_f86c9 0 = .ok (.lload_n 0, 1) := by decide +kernel
theorem dJ9_max_f86c9_1 : decode cJ9_max_f86c9 1 = .ok (.lload_n 2, 1) := by decide +kernel
theorem dJ9_max_f86c9_2 : decode cJ9_max_f86c9 2 = .ok (.lcmp, 1) := by decide +kernel
theorem dJ9_max_f86c9_3 : decode cJ9_max_f86c9 3 = .ok (.ifCond .lt 7, 3) := by decide +kernel
theorem dJ9_max_f86c9_6 : decode cJ9_max_f86c9 6 = .ok (.lload_n 0, 1) := by decide +kernel
theorem dJ9_max_f86c9_7 : decode cJ9_max_f86c9 7 = .ok (.goto 4, 3) := by decide +kernel
theorem dJ9_max_f86c9_10 : decode cJ9_max_f86c9 10 = .ok (.lload_n 2, 1) := by decide +kernel
theorem dJ9_max_f86c9_11 : decode cJ9_max_f86c9 11 = .ok (.lreturn, 1) := by decide +kernel
theorem dJ9_min_7cf53_0 : decode cJ9_min_7cf53 0 = .ok (.iload_n 0, 1) := by decide +kernel
theorem dJ9_min_7cf53_1 : decode cJ9_min_7cf53 1 = .ok (.iload_n 1, 1) := by decide +kernel
theorem dJ9_min_7cf53_2 : decode cJ9_min_7cf53 2 = .ok (.if_icmp .gt 7, 3) := by decide +kernel
theorem dJ9_min_7cf53_5 : decode cJ9_min_7cf53 5 = .ok (.iload_n 0, 1) := by decide +kernel
theorem dJ9_min_7cf53_6 : decode cJ9_min_7cf53 6 = .ok (.goto 4, 3) := by decide +kernel
theorem dJ9_min_7cf53_9 : decode cJ9_min_7cf53 9 = .ok (.iload_n 1, 1) := by decide +kernel
theorem dJ9_min_7cf53_10 : decode cJ9_min_7cf53 10 = .ok (.ireturn, 1) := by decide +kernel
abbrev vwCl : List vw_C := [(RX0, TX0, 12), (RX1, TX1, 2), (RX2, TX2, 4), (RX3, TX3, 2), (RX4, TX4, 6)]
