theorem dX5_init_0 : decode cX5_init 0 = .ok (.aload_n 0, 1) := by decide +kernel
theorem dX5_init_1 : decode cX5_init 1 = .ok (.invokespecial 1, 3) := by decide +kernel
theorem dX5_init_4 : decode cX5_init 4 = .ok (.aload_n 0, 1) := by decide +kernel
theorem dX5_init_5 : decode cX5_init 5 = .ok (.bipush 82, 2) := by decide +kernel
theorem dX5_init_7 : decode cX5_init 7 = .ok (.newarray .long, 2) := by decide +kernel
theorem dX5_init_9 : decode cX5_init 9 = .ok (.putfield 7, 3) := by decide +kernel
theorem dX5_init_12 : decode cX5_init 12 = .ok (.aload_n 0, 1) := by decide +kernel
theorem dX5_init_13 : decode cX5_init 13 = .ok (.bipush 82, 2) := by decide +kernel
theorem dX5_init_15 : decode cX5_init 15 = .ok (.newarray .long, 2) := by decide +kernel
theorem dX5_init_17 : decode cX5_init 17 = .ok (.putfield 13, 3) := by decide +kernel
theorem dX5_init_20 : decode cX5_init 20 = .ok (.aload_n 0, 1) := by decide +kernel
theorem dX5_init_21 : decode cX5_init 21 = .ok (.sipush 492, 3) := by decide +kernel
theorem dX5_init_24 : decode cX5_init 24 = .ok (.newarray .long, 2) := by decide +kernel
theorem dX5_init_26 : decode cX5_init 26 = .ok (.putfield 16, 3) := by decide +kernel
theorem dX5_init_29 : decode cX5_init 29 = .ok (.aload_n 0, 1) := by decide +kernel
theorem dX5_init_30 : decode cX5_init 30 = .ok (.bipush 60, 2) := by decide +kernel
theorem dX5_init_32 : decode cX5_init 32 = .ok (.newarray .int, 2) := by decide +kernel
theorem dX5_init_34 : decode cX5_init 34 = .ok (.putfield 19, 3) := by decide +kernel
theorem dX5_init_37 : decode cX5_init 37 = .ok (.aload_n 0, 1) := by decide +kernel
theorem dX5_init_38 : decode cX5_init 38 = .ok (.bipush 84, 2) := by decide +kernel
theorem dX5_init_40 : decode cX5_init 40 = .ok (.newarray .int, 2) := by decide +kernel
theorem dX5_init_42 : decode cX5_init 42 = .ok (.putfield 23, 3) := by decide +kernel
theorem dX5_init_45 : decode cX5_init 45 = .ok (.aload_n 0, 1) := by decide +kernel
theorem dX5_init_46 : decode cX5_init 46 = .ok (.iconst 4, 1) := by decide +kernel
theorem dX5_init_47 : decode cX5_init 47 = .ok (.newarray .long, 2) := by decide +kernel
theorem dX5_init_49 : decode cX5_init 49 = .ok (.putfield 26, 3) := by decide +kernel
theorem dX5_init_52 : decode cX5_init 52 = .ok (.aload_n 0, 1) := by decide +kernel
theorem dX5_init_53 : decode cX5_init 53 = .ok (.iconst 4, 1) := by decide +kernel
theorem dX5_init_54 : decode cX5_init 54 = .ok (.newarray .long, 2) := by decide +kernel
theorem dX5_init_56 : decode cX5_init 56 = .ok (.putfield 29, 3) := by decide +kernel
theorem dX5_init_59 : decode cX5_init 59 = .ok (.aload_n 0, 1) := by decide +kernel
theorem dX5_init_60 : decode cX5_init 60 = .ok (.getfield 7, 3) := by decide +kernel
theorem dX5_init_63 : decode cX5_init 63 = .ok (.iconst 0, 1) := by decide +kernel
theorem dX5_init_64 : decode cX5_init 64 = .ok (.ldc2_w 32, 3) := by decide +kernel
theorem dX5_init_67 : decode cX5_init 67 = .ok (.lastore, 1) := by decide +kernel
theorem dX5_init_68 : decode cX5_init 68 = .ok (.aload_n 0, 1) := by decide +kernel
theorem dX5_init_69 : decode cX5_init 69 = .ok (.getfield 7, 3) := by decide +kernel
theorem dX5_init_72 : decode cX5_init 72 = .ok (.iconst 1, 1) := by decide +kernel
theorem dX5_init_73 : decode cX5_init 73 = .ok (.ldc2_w 34, 3) := by decide +kernel
theorem dX5_init_76 : decode cX5_init 76 = .ok (.lastore, 1) := by decide +kernel
theorem dX5_init_77 : decode cX5_init 77 = .ok (.aload_n 0, 1) := by decide +kernel
theorem dX5_init_78 : decode cX5_init 78 = .ok (.getfield 7, 3) := by decide +kernel
theorem dX5_init_81 : decode cX5_init 81 = .ok (.bipush 6, 2) := by decide +kernel
theorem dX5_init_83 : decode cX5_init 83 = .ok (.ldc2_w 36, 3) := by decide +kernel
theorem dX5_init_86 : decode cX5_init 86 = .ok (.lastore, 1) := by decide +kernel
theorem dX5_init_87 : decode cX5_init 87 = .ok (.aload_n 0, 1) := by decide +kernel
theorem dX5_init_88 : decode cX5_init 88 = .ok (.getfield 7, 3) := by decide +kernel
theorem dX5_init_91 : decode cX5_init 91 = .ok (.bipush 8, 2) := by decide +kernel
theorem dX5_init_93 : decode cX5_init 93 = .ok (.ldc2_w 38, 3) := by decide +kernel
theorem dX5_init_96 : decode cX5_init 96 = .ok (.lastore, 1) := by decide +kernel
theorem dX5_init_97 : decode cX5_init 97 = .ok (.aload_n 0, 1) := by decide +kernel
theorem dX5_init_98 : decode cX5_init 98 = .ok (.getfield 7, 3) := by decide +kernel
theorem dX5_init_101 : decode cX5_init 101 = .ok (.bipush 9, 2) := by decide +kernel
theorem dX5_init_103 : decode cX5_init 103 = .ok (.lconst 1, 1) := by decide +kernel
theorem dX5_init_104 : decode cX5_init 104 = .ok (.lastore, 1) := by decide +kernel
theorem dX5_init_105 : decode cX5_init 105 = .ok (.iconst 0, 1) := by decide +kernel
theorem dX5_init_106 : decode cX5_init 106 = .ok (.istore_n 1, 1) := by decide +kernel
theorem dX5_init_107 : decode cX5_init 107 = .ok (.iload_n 1, 1) := by decide +kernel
theorem dX5_init_108 : decode cX5_init 108 = .ok (.bipush 16, 2) := by decide +kernel
theorem dX5_init_110 : decode cX5_init 110 = .ok (.if_icmp .ge 59, 3) := by decide +kernel
theorem dX5_init_113 : decode cX5_init 113 = .ok (.aload_n 0, 1) := by decide +kernel
theorem dX5_init_114 : decode cX5_init 114 = .ok (.getfield 7, 3) := by decide +kernel
theorem dX5_init_117 : decode cX5_init 117 = .ok (.bipush 18, 2) := by decide +kernel
theorem dX5_init_119 : decode cX5_init 119 = .ok (.iconst 4, 1) := by decide +kernel
theorem dX5_init_120 : decode cX5_init 120 = .ok (.iload_n 1, 1) := by decide +kernel
theorem dX5_init_121 : decode cX5_init 121 = .ok (.imul, 1) := by decide +kernel
theorem dX5_init_122 : decode cX5_init 122 = .ok (.iadd, 1) := by decide +kernel
theorem dX5_init_123 : decode cX5_init 123 = .ok (.iconst 1, 1) := by decide +kernel
theorem dX5_init_124 : decode cX5_init 124 = .ok (.iadd, 1) := by decide +kernel
theorem dX5_init_125 : decode cX5_init 125 = .ok (.iload_n 1, 1) := by decide +kernel
theorem dX5_init_126 : decode cX5_init 126 = .ok (.iconst 4, 1) := by decide +kernel
theorem dX5_init_127 : decode cX5_init 127 = .ok (.irem, 1) := by decide +kernel
theorem dX5_init_128 : decode cX5_init 128 = .ok (.i2l, 1) := by decide +kernel
theorem dX5_init_129 : decode cX5_init 129 = .ok (.lastore, 1) := by decide +kernel
theorem dX5_init_130 : decode cX5_init 130 = .ok (.aload_n 0, 1) := by decide +kernel
theorem dX5_init_131 : decode cX5_init 131 = .ok (.getfield 7, 3) := by decide +kernel
theorem dX5_init_134 : decode cX5_init 134 = .ok (.bipush 18, 2) := by decide +kernel
theorem dX5_init_136 : decode cX5_init 136 = .ok (.iconst 4, 1) := by decide +kernel
theorem dX5_init_137 : decode cX5_init 137 = .ok (.iload_n 1, 1) := by decide +kernel
theorem dX5_init_138 : decode cX5_init 138 = .ok (.imul, 1) := by decide +kernel
theorem dX5_init_139 : decode cX5_init 139 = .ok (.iadd, 1) := by decide +kernel
theorem dX5_init_140 : decode cX5_init 140 = .ok (.iconst 2, 1) := by decide +kernel
theorem dX5_init_141 : decode cX5_init 141 = .ok (.iadd, 1) := by decide +kernel
theorem dX5_init_142 : decode cX5_init 142 = .ok (.iload_n 1, 1) := by decide +kernel
theorem dX5_init_143 : decode cX5_init 143 = .ok (.iconst 4, 1) := by decide +kernel
theorem dX5_init_144 : decode cX5_init 144 = .ok (.irem, 1) := by decide +kernel
theorem dX5_init_145 : decode cX5_init 145 = .ok (.i2l, 1) := by decide +kernel
theorem dX5_init_146 : decode cX5_init 146 = .ok (.lastore, 1) := by decide +kernel
theorem dX5_init_147 : decode cX5_init 147 = .ok (.aload_n 0, 1) := by decide +kernel
theorem dX5_init_148 : decode cX5_init 148 = .ok (.getfield 7, 3) := by decide +kernel
theorem dX5_init_151 : decode cX5_init 151 = .ok (.bipush 18, 2) := by decide +kernel
theorem dX5_init_153 : decode cX5_init 153 = .ok (.iconst 4, 1) := by decide +kernel
theorem dX5_init_154 : decode cX5_init 154 = .ok (.iload_n 1, 1) := by decide +kernel
theorem dX5_init_155 : decode cX5_init 155 = .ok (.imul, 1) := by decide +kernel
theorem dX5_init_156 : decode cX5_init 156 = .ok (.iadd, 1) := by decide +kernel
theorem dX5_init_157 : decode cX5_init 157 = .ok (.iconst 3, 1) := by decide +kernel
theorem dX5_init_158 : decode cX5_init 158 = .ok (.iadd, 1) := by decide +kernel
theorem dX5_init_159 : decode cX5_init 159 = .ok (.ldc2_w 40, 3) := by decide +kernel
theorem dX5_init_162 : decode cX5_init 162 = .ok (.lastore, 1) := by decide +kernel
theorem dX5_init_163 : decode cX5_init 163 = .ok (.iinc 1 1, 3) := by decide +kernel
theorem dX5_init_166 : decode cX5_init 166 = .ok (.goto (-59), 3) := by decide +kernel
theorem dX5_init_169 : decode cX5_init 169 = .ok (.return_, 1) := by decide +kernel
theorem dX5_thrown_0 : decode cX5_thrown 0 = .ok (.aload_n 0, 1) := by decide +kernel
theorem dX5_thrown_1 : decode cX5_thrown 1 = .ok (.getfield 42, 3) := by decide +kernel
theorem dX5_thrown_4 : decode cX5_thrown 4 = .ok (.ireturn, 1) := by decide +kernel
theorem dX5_fails_0 : decode cX5_fails 0 = .ok (.aload_n 0, 1) := by decide +kernel
theorem dX5_fails_1 : decode cX5_fails 1 = .ok (.iload_n 1, 1) := by decide +kernel
theorem dX5_fails_2 : decode cX5_fails 2 = .ok (.putfield 42, 3) := by decide +kernel
theorem dX5_fails_5 : decode cX5_fails 5 = .ok (.iconst 0, 1) := by decide +kernel
theorem dX5_fails_6 : decode cX5_fails 6 = .ok (.ireturn, 1) := by decide +kernel
theorem dX5_in_0 : decode cX5_in 0 = .ok (.lload_n 0, 1) := by decide +kernel
theorem dX5_in_1 : decode cX5_in 1 = .ok (.iload_n 2, 1) := by decide +kernel
theorem dX5_in_2 : decode cX5_in 2 = .ok (.i2l, 1) := by decide +kernel
theorem dX5_in_3 : decode cX5_in 3 = .ok (.lcmp, 1) := by decide +kernel
theorem dX5_in_4 : decode cX5_in 4 = .ok (.ifCond .lt 14, 3) := by decide +kernel
theorem dX5_in_7 : decode cX5_in 7 = .ok (.lload_n 0, 1) := by decide +kernel
theorem dX5_in_8 : decode cX5_in 8 = .ok (.iload_n 3, 1) := by decide +kernel
theorem dX5_in_9 : decode cX5_in 9 = .ok (.i2l, 1) := by decide +kernel
theorem dX5_in_10 : decode cX5_in 10 = .ok (.lcmp, 1) := by decide +kernel
theorem dX5_in_11 : decode cX5_in 11 = .ok (.ifCond .gt 7, 3) := by decide +kernel
theorem dX5_in_14 : decode cX5_in 14 = .ok (.iconst 1, 1) := by decide +kernel
theorem dX5_in_15 : decode cX5_in 15 = .ok (.goto 4, 3) := by decide +kernel
theorem dX5_in_18 : decode cX5_in 18 = .ok (.iconst 0, 1) := by decide +kernel
theorem dX5_in_19 : decode cX5_in 19 = .ok (.ireturn, 1) := by decide +kernel
set_option maxRecDepth 20000 in
theorem ggX5_isArm_X5_in : GoodIn wsX5_isArm wsX5_in := goodIn_r _ [4] (by decide +kernel) (by decide +kernel)
set_option maxRecDepth 20000 in
theorem gX5_isArm_X5_in : GoodIn wsX5_isArm (va_wsS RX5 46 yX5_in wsX5_in) := goodIn_app (goodIn_of _ (by decide +kernel)) ggX5_isArm_X5_in
theorem dX5_isArm_0 : decode cX5_isArm 0 = .ok (.iload_n 0, 1) := by decide +kernel
theorem dX5_isArm_1 : decode cX5_isArm 1 = .ok (.i2l, 1) := by decide +kernel
theorem dX5_isArm_2 : decode cX5_isArm 2 = .ok (.iconst 0, 1) := by decide +kernel
theorem dX5_isArm_3 : decode cX5_isArm 3 = .ok (.iconst 3, 1) := by decide +kernel
theorem dX5_isArm_4 : decode cX5_isArm 4 = .ok (.invokestatic 46, 3) := by decide +kernel
theorem dX5_isArm_7 : decode cX5_isArm 7 = .ok (.ireturn, 1) := by decide +kernel
set_option maxRecDepth 20000 in
theorem ggX5_isState_X5_in : GoodIn wsX5_isState wsX5_in := goodIn_r _ [4] (by decide +kernel) (by decide +kernel)
set_option maxRecDepth 20000 in
theorem gX5_isState_X5_in : GoodIn wsX5_isState (va_wsS RX5 46 yX5_in wsX5_in) := goodIn_app (goodIn_of _ (by decide +kernel)) ggX5_isState_X5_in
theorem dX5_isState_0 : decode cX5_isState 0 = .ok (.iload_n 0, 1) := by decide +kernel
theorem dX5_isState_1 : decode cX5_isState 1 = .ok (.i2l, 1) := by decide +kernel
theorem dX5_isState_2 : decode cX5_isState 2 = .ok (.iconst 0, 1) := by decide +kernel
theorem dX5_isState_3 : decode cX5_isState 3 = .ok (.iconst 3, 1) := by decide +kernel
theorem dX5_isState_4 : decode cX5_isState 4 = .ok (.invokestatic 46, 3) := by decide +kernel
theorem dX5_isState_7 : decode cX5_isState 7 = .ok (.ireturn, 1) := by decide +kernel
theorem dX5_of_0 : decode cX5_of 0 = .ok (.aload_n 0, 1) := by decide +kernel
theorem dX5_of_1 : decode cX5_of 1 = .ok (.bipush 18, 2) := by decide +kernel
theorem dX5_of_3 : decode cX5_of 3 = .ok (.iconst 4, 1) := by decide +kernel
theorem dX5_of_4 : decode cX5_of 4 = .ok (.iconst 4, 1) := by decide +kernel
theorem dX5_of_5 : decode cX5_of 5 = .ok (.iload_n 1, 1) := by decide +kernel
theorem dX5_of_6 : decode cX5_of 6 = .ok (.imul, 1) := by decide +kernel
theorem dX5_of_7 : decode cX5_of 7 = .ok (.iload_n 2, 1) := by decide +kernel
theorem dX5_of_8 : decode cX5_of 8 = .ok (.iadd, 1) := by decide +kernel
theorem dX5_of_9 : decode cX5_of 9 = .ok (.imul, 1) := by decide +kernel
theorem dX5_of_10 : decode cX5_of 10 = .ok (.iadd, 1) := by decide +kernel
theorem dX5_of_11 : decode cX5_of 11 = .ok (.iload_n 3, 1) := by decide +kernel
theorem dX5_of_12 : decode cX5_of 12 = .ok (.iadd, 1) := by decide +kernel
theorem dX5_of_13 : decode cX5_of 13 = .ok (.laload, 1) := by decide +kernel
theorem dX5_of_14 : decode cX5_of 14 = .ok (.l2i, 1) := by decide +kernel
theorem dX5_of_15 : decode cX5_of 15 = .ok (.ireturn, 1) := by decide +kernel
theorem dX5_stands_0 : decode cX5_stands 0 = .ok (.aload_n 0, 1) := by decide +kernel
theorem dX5_stands_1 : decode cX5_stands 1 = .ok (.bipush 10, 2) := by decide +kernel
theorem dX5_stands_3 : decode cX5_stands 3 = .ok (.iconst 2, 1) := by decide +kernel
theorem dX5_stands_4 : decode cX5_stands 4 = .ok (.iload_n 1, 1) := by decide +kernel
theorem dX5_stands_5 : decode cX5_stands 5 = .ok (.imul, 1) := by decide +kernel
theorem dX5_stands_6 : decode cX5_stands 6 = .ok (.iadd, 1) := by decide +kernel
theorem dX5_stands_7 : decode cX5_stands 7 = .ok (.laload, 1) := by decide +kernel
theorem dX5_stands_8 : decode cX5_stands 8 = .ok (.l2i, 1) := by decide +kernel
theorem dX5_stands_9 : decode cX5_stands 9 = .ok (.ireturn, 1) := by decide +kernel
theorem dX5_saves_0 : decode cX5_saves 0 = .ok (.aload_n 0, 1) := by decide +kernel
theorem dX5_saves_1 : decode cX5_saves 1 = .ok (.getfield 50, 3) := by decide +kernel
theorem dX5_saves_4 : decode cX5_saves 4 = .ok (.bipush 6, 2) := by decide +kernel
theorem dX5_saves_6 : decode cX5_saves 6 = .ok (.if_icmp .ne 43, 3) := by decide +kernel
theorem dX5_saves_9 : decode cX5_saves 9 = .ok (.iconst 0, 1) := by decide +kernel
theorem dX5_saves_10 : decode cX5_saves 10 = .ok (.istore_n 1, 1) := by decide +kernel
theorem dX5_saves_11 : decode cX5_saves 11 = .ok (.iload_n 1, 1) := by decide +kernel
theorem dX5_saves_12 : decode cX5_saves 12 = .ok (.sipush 410, 3) := by decide +kernel
theorem dX5_saves_15 : decode cX5_saves 15 = .ok (.if_icmp .ge 24, 3) := by decide +kernel
theorem dX5_saves_18 : decode cX5_saves 18 = .ok (.aload_n 0, 1) := by decide +kernel
theorem dX5_saves_19 : decode cX5_saves 19 = .ok (.getfield 16, 3) := by decide +kernel
theorem dX5_saves_22 : decode cX5_saves 22 = .ok (.iload_n 1, 1) := by decide +kernel
theorem dX5_saves_23 : decode cX5_saves 23 = .ok (.aload_n 0, 1) := by decide +kernel
theorem dX5_saves_24 : decode cX5_saves 24 = .ok (.getfield 16, 3) := by decide +kernel
theorem dX5_saves_27 : decode cX5_saves 27 = .ok (.iload_n 1, 1) := by decide +kernel
theorem dX5_saves_28 : decode cX5_saves 28 = .ok (.bipush 82, 2) := by decide +kernel
theorem dX5_saves_30 : decode cX5_saves 30 = .ok (.iadd, 1) := by decide +kernel
theorem dX5_saves_31 : decode cX5_saves 31 = .ok (.laload, 1) := by decide +kernel
theorem dX5_saves_32 : decode cX5_saves 32 = .ok (.lastore, 1) := by decide +kernel
theorem dX5_saves_33 : decode cX5_saves 33 = .ok (.iinc 1 1, 3) := by decide +kernel
theorem dX5_saves_36 : decode cX5_saves 36 = .ok (.goto (-25), 3) := by decide +kernel
theorem dX5_saves_39 : decode cX5_saves 39 = .ok (.aload_n 0, 1) := by decide +kernel
theorem dX5_saves_40 : decode cX5_saves 40 = .ok (.dup, 1) := by decide +kernel
theorem dX5_saves_41 : decode cX5_saves 41 = .ok (.getfield 50, 3) := by decide +kernel
theorem dX5_saves_44 : decode cX5_saves 44 = .ok (.iconst 1, 1) := by decide +kernel
theorem dX5_saves_45 : decode cX5_saves 45 = .ok (.isub, 1) := by decide +kernel
theorem dX5_saves_46 : decode cX5_saves 46 = .ok (.putfield 50, 3) := by decide +kernel
theorem dX5_saves_49 : decode cX5_saves 49 = .ok (.iconst 0, 1) := by decide +kernel
theorem dX5_saves_50 : decode cX5_saves 50 = .ok (.istore_n 1, 1) := by decide +kernel
theorem dX5_saves_51 : decode cX5_saves 51 = .ok (.iload_n 1, 1) := by decide +kernel
theorem dX5_saves_52 : decode cX5_saves 52 = .ok (.bipush 82, 2) := by decide +kernel
theorem dX5_saves_54 : decode cX5_saves 54 = .ok (.if_icmp .ge 29, 3) := by decide +kernel
theorem dX5_saves_57 : decode cX5_saves 57 = .ok (.aload_n 0, 1) := by decide +kernel
theorem dX5_saves_58 : decode cX5_saves 58 = .ok (.getfield 16, 3) := by decide +kernel
theorem dX5_saves_61 : decode cX5_saves 61 = .ok (.bipush 82, 2) := by decide +kernel
theorem dX5_saves_63 : decode cX5_saves 63 = .ok (.aload_n 0, 1) := by decide +kernel
theorem dX5_saves_64 : decode cX5_saves 64 = .ok (.getfield 50, 3) := by decide +kernel
theorem dX5_saves_67 : decode cX5_saves 67 = .ok (.imul, 1) := by decide +kernel
theorem dX5_saves_68 : decode cX5_saves 68 = .ok (.iload_n 1, 1) := by decide +kernel
theorem dX5_saves_69 : decode cX5_saves 69 = .ok (.iadd, 1) := by decide +kernel
theorem dX5_saves_70 : decode cX5_saves 70 = .ok (.aload_n 0, 1) := by decide +kernel
theorem dX5_saves_71 : decode cX5_saves 71 = .ok (.getfield 7, 3) := by decide +kernel
theorem dX5_saves_74 : decode cX5_saves 74 = .ok (.iload_n 1, 1) := by decide +kernel
theorem dX5_saves_75 : decode cX5_saves 75 = .ok (.laload, 1) := by decide +kernel
theorem dX5_saves_76 : decode cX5_saves 76 = .ok (.lastore, 1) := by decide +kernel
theorem dX5_saves_77 : decode cX5_saves 77 = .ok (.iinc 1 1, 3) := by decide +kernel
theorem dX5_saves_80 : decode cX5_saves 80 = .ok (.goto (-29), 3) := by decide +kernel
theorem dX5_saves_83 : decode cX5_saves 83 = .ok (.aload_n 0, 1) := by decide +kernel
theorem dX5_saves_84 : decode cX5_saves 84 = .ok (.dup, 1) := by decide +kernel
theorem dX5_saves_85 : decode cX5_saves 85 = .ok (.getfield 50, 3) := by decide +kernel
theorem dX5_saves_88 : decode cX5_saves 88 = .ok (.iconst 1, 1) := by decide +kernel
theorem dX5_saves_89 : decode cX5_saves 89 = .ok (.iadd, 1) := by decide +kernel
theorem dX5_saves_90 : decode cX5_saves 90 = .ok (.putfield 50, 3) := by decide +kernel
theorem dX5_saves_93 : decode cX5_saves 93 = .ok (.return_, 1) := by decide +kernel
set_option maxRecDepth 20000 in
theorem ggX5_undo_X5_fails : GoodIn wsX5_undo wsX5_fails := goodIn_r _ [9, 1, 10, 11, 12, 13, 14, 15, 16, 17, 18, 19, 20, 21, 22] (by decide +kernel) (by decide +kernel)
set_option maxRecDepth 20000 in
theorem gX5_undo_X5_fails : GoodIn wsX5_undo (wsV RX5 53 RX5 yX5_fails wsX5_fails) := goodIn_app (goodIn_of _ (by decide +kernel)) ggX5_undo_X5_fails
theorem dX5_undo_0 : decode cX5_undo 0 = .ok (.aload_n 0, 1) := by decide +kernel
theorem dX5_undo_1 : decode cX5_undo 1 = .ok (.iconst 0, 1) := by decide +kernel
theorem dX5_undo_2 : decode cX5_undo 2 = .ok (.putfield 42, 3) := by decide +kernel
theorem dX5_undo_5 : decode cX5_undo 5 = .ok (.aload_n 0, 1) := by decide +kernel
theorem dX5_undo_6 : decode cX5_undo 6 = .ok (.getfield 50, 3) := by decide +kernel
theorem dX5_undo_9 : decode cX5_undo 9 = .ok (.ifCond .ne 9, 3) := by decide +kernel
theorem dX5_undo_12 : decode cX5_undo 12 = .ok (.aload_n 0, 1) := by decide +kernel
theorem dX5_undo_13 : decode cX5_undo 13 = .ok (.iconst 1, 1) := by decide +kernel
theorem dX5_undo_14 : decode cX5_undo 14 = .ok (.invokevirtual 53, 3) := by decide +kernel
theorem dX5_undo_17 : decode cX5_undo 17 = .ok (.ireturn, 1) := by decide +kernel
theorem dX5_undo_18 : decode cX5_undo 18 = .ok (.aload_n 0, 1) := by decide +kernel
theorem dX5_undo_19 : decode cX5_undo 19 = .ok (.dup, 1) := by decide +kernel
theorem dX5_undo_20 : decode cX5_undo 20 = .ok (.getfield 50, 3) := by decide +kernel
theorem dX5_undo_23 : decode cX5_undo 23 = .ok (.iconst 1, 1) := by decide +kernel
theorem dX5_undo_24 : decode cX5_undo 24 = .ok (.isub, 1) := by decide +kernel
theorem dX5_undo_25 : decode cX5_undo 25 = .ok (.putfield 50, 3) := by decide +kernel
theorem dX5_undo_28 : decode cX5_undo 28 = .ok (.iconst 0, 1) := by decide +kernel
theorem dX5_undo_29 : decode cX5_undo 29 = .ok (.istore_n 1, 1) := by decide +kernel
theorem dX5_undo_30 : decode cX5_undo 30 = .ok (.iload_n 1, 1) := by decide +kernel
theorem dX5_undo_31 : decode cX5_undo 31 = .ok (.bipush 82, 2) := by decide +kernel
theorem dX5_undo_33 : decode cX5_undo 33 = .ok (.if_icmp .ge 29, 3) := by decide +kernel
theorem dX5_undo_36 : decode cX5_undo 36 = .ok (.aload_n 0, 1) := by decide +kernel
theorem dX5_undo_37 : decode cX5_undo 37 = .ok (.getfield 7, 3) := by decide +kernel
theorem dX5_undo_40 : decode cX5_undo 40 = .ok (.iload_n 1, 1) := by decide +kernel
theorem dX5_undo_41 : decode cX5_undo 41 = .ok (.aload_n 0, 1) := by decide +kernel
theorem dX5_undo_42 : decode cX5_undo 42 = .ok (.getfield 16, 3) := by decide +kernel
theorem dX5_undo_45 : decode cX5_undo 45 = .ok (.bipush 82, 2) := by decide +kernel
theorem dX5_undo_47 : decode cX5_undo 47 = .ok (.aload_n 0, 1) := by decide +kernel
theorem dX5_undo_48 : decode cX5_undo 48 = .ok (.getfield 50, 3) := by decide +kernel
theorem dX5_undo_51 : decode cX5_undo 51 = .ok (.imul, 1) := by decide +kernel
theorem dX5_undo_52 : decode cX5_undo 52 = .ok (.iload_n 1, 1) := by decide +kernel
theorem dX5_undo_53 : decode cX5_undo 53 = .ok (.iadd, 1) := by decide +kernel
theorem dX5_undo_54 : decode cX5_undo 54 = .ok (.laload, 1) := by decide +kernel
theorem dX5_undo_55 : decode cX5_undo 55 = .ok (.lastore, 1) := by decide +kernel
theorem dX5_undo_56 : decode cX5_undo 56 = .ok (.iinc 1 1, 3) := by decide +kernel
theorem dX5_undo_59 : decode cX5_undo 59 = .ok (.goto (-29), 3) := by decide +kernel
theorem dX5_undo_62 : decode cX5_undo 62 = .ok (.aload_n 0, 1) := by decide +kernel
theorem dX5_undo_63 : decode cX5_undo 63 = .ok (.getfield 50, 3) := by decide +kernel
theorem dX5_undo_66 : decode cX5_undo 66 = .ok (.ireturn, 1) := by decide +kernel
theorem dX5_tries_0 : decode cX5_tries 0 = .ok (.iconst 0, 1) := by decide +kernel
theorem dX5_tries_1 : decode cX5_tries 1 = .ok (.istore_n 1, 1) := by decide +kernel
theorem dX5_tries_2 : decode cX5_tries 2 = .ok (.iload_n 1, 1) := by decide +kernel
theorem dX5_tries_3 : decode cX5_tries 3 = .ok (.bipush 82, 2) := by decide +kernel
theorem dX5_tries_5 : decode cX5_tries 5 = .ok (.if_icmp .ge 21, 3) := by decide +kernel
theorem dX5_tries_8 : decode cX5_tries 8 = .ok (.aload_n 0, 1) := by decide +kernel
theorem dX5_tries_9 : decode cX5_tries 9 = .ok (.getfield 13, 3) := by decide +kernel
theorem dX5_tries_12 : decode cX5_tries 12 = .ok (.iload_n 1, 1) := by decide +kernel
theorem dX5_tries_13 : decode cX5_tries 13 = .ok (.aload_n 0, 1) := by decide +kernel
theorem dX5_tries_14 : decode cX5_tries 14 = .ok (.getfield 7, 3) := by decide +kernel
theorem dX5_tries_17 : decode cX5_tries 17 = .ok (.iload_n 1, 1) := by decide +kernel
theorem dX5_tries_18 : decode cX5_tries 18 = .ok (.laload, 1) := by decide +kernel
theorem dX5_tries_19 : decode cX5_tries 19 = .ok (.lastore, 1) := by decide +kernel
theorem dX5_tries_20 : decode cX5_tries 20 = .ok (.iinc 1 1, 3) := by decide +kernel
theorem dX5_tries_23 : decode cX5_tries 23 = .ok (.goto (-21), 3) := by decide +kernel
theorem dX5_tries_26 : decode cX5_tries 26 = .ok (.return_, 1) := by decide +kernel
set_option maxRecDepth 20000 in
theorem ggX5_expected_X5_of : GoodIn wsX5_expected wsX5_of := goodIn_r _ [6] (by decide +kernel) (by decide +kernel)
set_option maxRecDepth 20000 in
theorem gX5_expected_X5_of : GoodIn wsX5_expected (va_wsS RX5 57 yX5_of wsX5_of) := goodIn_app (goodIn_of _ (by decide +kernel)) ggX5_expected_X5_of
theorem dX5_expected_0 : decode cX5_expected 0 = .ok (.aload_n 1, 1) := by decide +kernel
theorem dX5_expected_1 : decode cX5_expected 1 = .ok (.iload_n 2, 1) := by decide +kernel
theorem dX5_expected_2 : decode cX5_expected 2 = .ok (.iload_n 3, 1) := by decide +kernel
theorem dX5_expected_3 : decode cX5_expected 3 = .ok (.iconst 3, 1) := by decide +kernel
theorem dX5_expected_4 : decode cX5_expected 4 = .ok (.invokestatic 57, 3) := by decide +kernel
theorem dX5_expected_7 : decode cX5_expected 7 = .ok (.istore 4, 2) := by decide +kernel
theorem dX5_expected_9 : decode cX5_expected 9 = .ok (.iload 4, 2) := by decide +kernel
theorem dX5_expected_11 : decode cX5_expected 11 = .ok (.i2l, 1) := by decide +kernel
theorem dX5_expected_12 : decode cX5_expected 12 = .ok (.aload_n 0, 1) := by decide +kernel
theorem dX5_expected_13 : decode cX5_expected 13 = .ok (.getfield 26, 3) := by decide +kernel
theorem dX5_expected_16 : decode cX5_expected 16 = .ok (.aload_n 1, 1) := by decide +kernel
theorem dX5_expected_17 : decode cX5_expected 17 = .ok (.iload_n 2, 1) := by decide +kernel
theorem dX5_expected_18 : decode cX5_expected 18 = .ok (.iload_n 3, 1) := by decide +kernel
theorem dX5_expected_19 : decode cX5_expected 19 = .ok (.iconst 1, 1) := by decide +kernel
theorem dX5_expected_20 : decode cX5_expected 20 = .ok (.invokestatic 57, 3) := by decide +kernel
theorem dX5_expected_23 : decode cX5_expected 23 = .ok (.laload, 1) := by decide +kernel
theorem dX5_expected_24 : decode cX5_expected 24 = .ok (.lmul, 1) := by decide +kernel
theorem dX5_expected_25 : decode cX5_expected 25 = .ok (.bipush 8, 2) := by decide +kernel
theorem dX5_expected_27 : decode cX5_expected 27 = .ok (.iload 4, 2) := by decide +kernel
theorem dX5_expected_29 : decode cX5_expected 29 = .ok (.isub, 1) := by decide +kernel
theorem dX5_expected_30 : decode cX5_expected 30 = .ok (.i2l, 1) := by decide +kernel
theorem dX5_expected_31 : decode cX5_expected 31 = .ok (.aload_n 0, 1) := by decide +kernel
theorem dX5_expected_32 : decode cX5_expected 32 = .ok (.getfield 26, 3) := by decide +kernel
theorem dX5_expected_35 : decode cX5_expected 35 = .ok (.aload_n 1, 1) := by decide +kernel
theorem dX5_expected_36 : decode cX5_expected 36 = .ok (.iload_n 2, 1) := by decide +kernel
theorem dX5_expected_37 : decode cX5_expected 37 = .ok (.iload_n 3, 1) := by decide +kernel
theorem dX5_expected_38 : decode cX5_expected 38 = .ok (.iconst 2, 1) := by decide +kernel
theorem dX5_expected_39 : decode cX5_expected 39 = .ok (.invokestatic 57, 3) := by decide +kernel
theorem dX5_expected_42 : decode cX5_expected 42 = .ok (.laload, 1) := by decide +kernel
theorem dX5_expected_43 : decode cX5_expected 43 = .ok (.lmul, 1) := by decide +kernel
theorem dX5_expected_44 : decode cX5_expected 44 = .ok (.ladd, 1) := by decide +kernel
theorem dX5_expected_45 : decode cX5_expected 45 = .ok (.ldc2_w 61, 3) := by decide +kernel
theorem dX5_expected_48 : decode cX5_expected 48 = .ok (.ldiv, 1) := by decide +kernel
theorem dX5_expected_49 : decode cX5_expected 49 = .ok (.lreturn, 1) := by decide +kernel
set_option maxRecDepth 20000 in
theorem ggX5_round_X5_of : GoodIn wsX5_round wsX5_of := goodIn_r _ [8] (by decide +kernel) (by decide +kernel)
set_option maxRecDepth 20000 in
theorem gX5_round_X5_of : GoodIn wsX5_round (va_wsS RX5 57 yX5_of wsX5_of) := goodIn_app (goodIn_of _ (by decide +kernel)) ggX5_round_X5_of
set_option maxRecDepth 20000 in
theorem ggX5_round_X5_expected : GoodIn wsX5_round wsX5_expected := goodIn_r _ [12, 4, 13, 5, 6, 7, 8, 14, 15, 16, 17, 18, 19, 20, 21, 22, 23, 24, 25, 26] (by decide +kernel) (by decide +kernel)
set_option maxRecDepth 20000 in
theorem gX5_round_X5_expected : GoodIn wsX5_round (wsV RX5 65 RX5 yX5_expected wsX5_expected) := goodIn_app (goodIn_of _ (by decide +kernel)) ggX5_round_X5_expected
theorem dX5_round_0 : decode cX5_round 0 = .ok (.iconst 0, 1) := by decide +kernel
theorem dX5_round_1 : decode cX5_round 1 = .ok (.istore 4, 2) := by decide +kernel
theorem dX5_round_3 : decode cX5_round 3 = .ok (.iload 4, 2) := by decide +kernel
theorem dX5_round_5 : decode cX5_round 5 = .ok (.iconst 4, 1) := by decide +kernel
theorem dX5_round_6 : decode cX5_round 6 = .ok (.if_icmp .ge 46, 3) := by decide +kernel
theorem dX5_round_9 : decode cX5_round 9 = .ok (.aload_n 0, 1) := by decide +kernel
theorem dX5_round_10 : decode cX5_round 10 = .ok (.getfield 29, 3) := by decide +kernel
theorem dX5_round_13 : decode cX5_round 13 = .ok (.iload 4, 2) := by decide +kernel
theorem dX5_round_15 : decode cX5_round 15 = .ok (.ldc2_w 63, 3) := by decide +kernel
theorem dX5_round_18 : decode cX5_round 18 = .ok (.aload_n 1, 1) := by decide +kernel
theorem dX5_round_19 : decode cX5_round 19 = .ok (.iload_n 2, 1) := by decide +kernel
theorem dX5_round_20 : decode cX5_round 20 = .ok (.iload 4, 2) := by decide +kernel
theorem dX5_round_22 : decode cX5_round 22 = .ok (.iconst 0, 1) := by decide +kernel
theorem dX5_round_23 : decode cX5_round 23 = .ok (.invokestatic 57, 3) := by decide +kernel
theorem dX5_round_26 : decode cX5_round 26 = .ok (.i2l, 1) := by decide +kernel
theorem dX5_round_27 : decode cX5_round 27 = .ok (.lmul, 1) := by decide +kernel
theorem dX5_round_28 : decode cX5_round 28 = .ok (.aload_n 1, 1) := by decide +kernel
theorem dX5_round_29 : decode cX5_round 29 = .ok (.iconst 0, 1) := by decide +kernel
theorem dX5_round_30 : decode cX5_round 30 = .ok (.laload, 1) := by decide +kernel
theorem dX5_round_31 : decode cX5_round 31 = .ok (.aload_n 0, 1) := by decide +kernel
theorem dX5_round_32 : decode cX5_round 32 = .ok (.aload_n 1, 1) := by decide +kernel
theorem dX5_round_33 : decode cX5_round 33 = .ok (.iload_n 2, 1) := by decide +kernel
theorem dX5_round_34 : decode cX5_round 34 = .ok (.iload 4, 2) := by decide +kernel
theorem dX5_round_36 : decode cX5_round 36 = .ok (.invokevirtual 65, 3) := by decide +kernel
theorem dX5_round_39 : decode cX5_round 39 = .ok (.lmul, 1) := by decide +kernel
theorem dX5_round_40 : decode cX5_round 40 = .ok (.ldc2_w 69, 3) := by decide +kernel
theorem dX5_round_43 : decode cX5_round 43 = .ok (.ldiv, 1) := by decide +kernel
theorem dX5_round_44 : decode cX5_round 44 = .ok (.ladd, 1) := by decide +kernel
theorem dX5_round_45 : decode cX5_round 45 = .ok (.lastore, 1) := by decide +kernel
theorem dX5_round_46 : decode cX5_round 46 = .ok (.iinc 4 1, 3) := by decide +kernel
theorem dX5_round_49 : decode cX5_round 49 = .ok (.goto (-46), 3) := by decide +kernel
theorem dX5_round_52 : decode cX5_round 52 = .ok (.iconst 0, 1) := by decide +kernel
theorem dX5_round_53 : decode cX5_round 53 = .ok (.istore 4, 2) := by decide +kernel
theorem dX5_round_55 : decode cX5_round 55 = .ok (.iload 4, 2) := by decide +kernel
theorem dX5_round_57 : decode cX5_round 57 = .ok (.iconst 4, 1) := by decide +kernel
theorem dX5_round_58 : decode cX5_round 58 = .ok (.if_icmp .ge 49, 3) := by decide +kernel
theorem dX5_round_61 : decode cX5_round 61 = .ok (.aload_n 0, 1) := by decide +kernel
theorem dX5_round_62 : decode cX5_round 62 = .ok (.getfield 26, 3) := by decide +kernel
theorem dX5_round_65 : decode cX5_round 65 = .ok (.iload 4, 2) := by decide +kernel
theorem dX5_round_67 : decode cX5_round 67 = .ok (.aload_n 0, 1) := by decide +kernel
theorem dX5_round_68 : decode cX5_round 68 = .ok (.getfield 29, 3) := by decide +kernel
theorem dX5_round_71 : decode cX5_round 71 = .ok (.iload 4, 2) := by decide +kernel
theorem dX5_round_73 : decode cX5_round 73 = .ok (.laload, 1) := by decide +kernel
theorem dX5_round_74 : decode cX5_round 74 = .ok (.aload_n 0, 1) := by decide +kernel
theorem dX5_round_75 : decode cX5_round 75 = .ok (.getfield 29, 3) := by decide +kernel
theorem dX5_round_78 : decode cX5_round 78 = .ok (.iload_n 3, 1) := by decide +kernel
theorem dX5_round_79 : decode cX5_round 79 = .ok (.laload, 1) := by decide +kernel
theorem dX5_round_80 : decode cX5_round 80 = .ok (.lcmp, 1) := by decide +kernel
theorem dX5_round_81 : decode cX5_round 81 = .ok (.ifCond .le 13, 3) := by decide +kernel
theorem dX5_round_84 : decode cX5_round 84 = .ok (.aload_n 0, 1) := by decide +kernel
theorem dX5_round_85 : decode cX5_round 85 = .ok (.getfield 29, 3) := by decide +kernel
theorem dX5_round_88 : decode cX5_round 88 = .ok (.iload 4, 2) := by decide +kernel
theorem dX5_round_90 : decode cX5_round 90 = .ok (.laload, 1) := by decide +kernel
theorem dX5_round_91 : decode cX5_round 91 = .ok (.goto 9, 3) := by decide +kernel
theorem dX5_round_94 : decode cX5_round 94 = .ok (.aload_n 0, 1) := by decide +kernel
theorem dX5_round_95 : decode cX5_round 95 = .ok (.getfield 29, 3) := by decide +kernel
theorem dX5_round_98 : decode cX5_round 98 = .ok (.iload_n 3, 1) := by decide +kernel
theorem dX5_round_99 : decode cX5_round 99 = .ok (.laload, 1) := by decide +kernel
theorem dX5_round_100 : decode cX5_round 100 = .ok (.lastore, 1) := by decide +kernel
theorem dX5_round_101 : decode cX5_round 101 = .ok (.iinc 4 1, 3) := by decide +kernel
theorem dX5_round_104 : decode cX5_round 104 = .ok (.goto (-49), 3) := by decide +kernel
theorem dX5_round_107 : decode cX5_round 107 = .ok (.return_, 1) := by decide +kernel
theorem dX5_begins_0 : decode cX5_begins 0 = .ok (.iconst 0, 1) := by decide +kernel
theorem dX5_begins_1 : decode cX5_begins 1 = .ok (.istore_n 1, 1) := by decide +kernel
theorem dX5_begins_2 : decode cX5_begins 2 = .ok (.iload_n 1, 1) := by decide +kernel
theorem dX5_begins_3 : decode cX5_begins 3 = .ok (.iconst 4, 1) := by decide +kernel
theorem dX5_begins_4 : decode cX5_begins 4 = .ok (.if_icmp .ge 16, 3) := by decide +kernel
theorem dX5_begins_7 : decode cX5_begins 7 = .ok (.aload_n 0, 1) := by decide +kernel
theorem dX5_begins_8 : decode cX5_begins 8 = .ok (.getfield 26, 3) := by decide +kernel
theorem dX5_begins_11 : decode cX5_begins 11 = .ok (.iload_n 1, 1) := by decide +kernel
theorem dX5_begins_12 : decode cX5_begins 12 = .ok (.lconst 0, 1) := by decide +kernel
theorem dX5_begins_13 : decode cX5_begins 13 = .ok (.lastore, 1) := by decide +kernel
theorem dX5_begins_14 : decode cX5_begins 14 = .ok (.iinc 1 1, 3) := by decide +kernel
theorem dX5_begins_17 : decode cX5_begins 17 = .ok (.goto (-15), 3) := by decide +kernel
theorem dX5_begins_20 : decode cX5_begins 20 = .ok (.return_, 1) := by decide +kernel
theorem dX5_indexBy_0 : decode cX5_indexBy 0 = .ok (.ldc2_w 69, 3) := by decide +kernel
theorem dX5_indexBy_3 : decode cX5_indexBy 3 = .ok (.aload_n 1, 1) := by decide +kernel
theorem dX5_indexBy_4 : decode cX5_indexBy 4 = .ok (.iconst 0, 1) := by decide +kernel
theorem dX5_indexBy_5 : decode cX5_indexBy 5 = .ok (.laload, 1) := by decide +kernel
theorem dX5_indexBy_6 : decode cX5_indexBy 6 = .ok (.lsub, 1) := by decide +kernel
theorem dX5_indexBy_7 : decode cX5_indexBy 7 = .ok (.aload_n 0, 1) := by decide +kernel
theorem dX5_indexBy_8 : decode cX5_indexBy 8 = .ok (.getfield 26, 3) := by decide +kernel
theorem dX5_indexBy_11 : decode cX5_indexBy 11 = .ok (.iload_n 2, 1) := by decide +kernel
theorem dX5_indexBy_12 : decode cX5_indexBy 12 = .ok (.laload, 1) := by decide +kernel
theorem dX5_indexBy_13 : decode cX5_indexBy 13 = .ok (.lmul, 1) := by decide +kernel
theorem dX5_indexBy_14 : decode cX5_indexBy 14 = .ok (.ldc2_w 69, 3) := by decide +kernel
theorem dX5_indexBy_17 : decode cX5_indexBy 17 = .ok (.ldiv, 1) := by decide +kernel
theorem dX5_indexBy_18 : decode cX5_indexBy 18 = .ok (.lreturn, 1) := by decide +kernel
set_option maxRecDepth 20000 in
theorem ggX5_indexOf_X5_begins : GoodIn wsX5_indexOf wsX5_begins := goodIn_r _ [5, 6, 26, 27, 28, 29, 30, 31, 32, 33, 34, 35, 36, 37, 38] (by decide +kernel) (by decide +kernel)
set_option maxRecDepth 20000 in
theorem gX5_indexOf_X5_begins : GoodIn wsX5_indexOf (wsV RX5 71 RX5 yX5_begins wsX5_begins) := goodIn_app (goodIn_of _ (by decide +kernel)) ggX5_indexOf_X5_begins
set_option maxRecDepth 20000 in
theorem ggX5_indexOf_X5_round : GoodIn wsX5_indexOf wsX5_round := goodIn_r _ [10, 11, 12, 13, 6, 14, 15, 4, 16, 17, 18, 19, 20, 21, 26, 27, 28, 29, 30, 31, 32, 33, 34, 35, 36, 37, 38] (by decide +kernel) (by decide +kernel)
set_option maxRecDepth 20000 in
theorem gX5_indexOf_X5_round : GoodIn wsX5_indexOf (wsV RX5 74 RX5 yX5_round wsX5_round) := goodIn_app (goodIn_of _ (by decide +kernel)) ggX5_indexOf_X5_round
set_option maxRecDepth 20000 in
theorem ggX5_indexOf_X5_indexBy : GoodIn wsX5_indexOf wsX5_indexBy := goodIn_r _ [25, 13, 6, 26, 27, 28, 29, 30, 31, 32, 33, 34, 35, 36, 37, 38] (by decide +kernel) (by decide +kernel)
set_option maxRecDepth 20000 in
theorem gX5_indexOf_X5_indexBy : GoodIn wsX5_indexOf (wsV RX5 78 RX5 yX5_indexBy wsX5_indexBy) := goodIn_app (goodIn_of _ (by decide +kernel)) ggX5_indexOf_X5_indexBy
theorem dX5_indexOf_0 : decode cX5_indexOf 0 = .ok (.aload_n 0, 1) := by decide +kernel
theorem dX5_indexOf_1 : decode cX5_indexOf 1 = .ok (.invokevirtual 71, 3) := by decide +kernel
theorem dX5_indexOf_4 : decode cX5_indexOf 4 = .ok (.iconst 0, 1) := by decide +kernel
theorem dX5_indexOf_5 : decode cX5_indexOf 5 = .ok (.istore 4, 2) := by decide +kernel
theorem dX5_indexOf_7 : decode cX5_indexOf 7 = .ok (.iload 4, 2) := by decide +kernel
theorem dX5_indexOf_9 : decode cX5_indexOf 9 = .ok (.i2l, 1) := by decide +kernel
theorem dX5_indexOf_10 : decode cX5_indexOf 10 = .ok (.aload_n 1, 1) := by decide +kernel
theorem dX5_indexOf_11 : decode cX5_indexOf 11 = .ok (.iconst 1, 1) := by decide +kernel
theorem dX5_indexOf_12 : decode cX5_indexOf 12 = .ok (.laload, 1) := by decide +kernel
theorem dX5_indexOf_13 : decode cX5_indexOf 13 = .ok (.lcmp, 1) := by decide +kernel
theorem dX5_indexOf_14 : decode cX5_indexOf 14 = .ok (.ifCond .ge 16, 3) := by decide +kernel
theorem dX5_indexOf_17 : decode cX5_indexOf 17 = .ok (.aload_n 0, 1) := by decide +kernel
theorem dX5_indexOf_18 : decode cX5_indexOf 18 = .ok (.aload_n 1, 1) := by decide +kernel
theorem dX5_indexOf_19 : decode cX5_indexOf 19 = .ok (.iload_n 2, 1) := by decide +kernel
theorem dX5_indexOf_20 : decode cX5_indexOf 20 = .ok (.iload_n 3, 1) := by decide +kernel
theorem dX5_indexOf_21 : decode cX5_indexOf 21 = .ok (.invokevirtual 74, 3) := by decide +kernel
theorem dX5_indexOf_24 : decode cX5_indexOf 24 = .ok (.iinc 4 1, 3) := by decide +kernel
theorem dX5_indexOf_27 : decode cX5_indexOf 27 = .ok (.goto (-20), 3) := by decide +kernel
theorem dX5_indexOf_30 : decode cX5_indexOf 30 = .ok (.aload_n 0, 1) := by decide +kernel
theorem dX5_indexOf_31 : decode cX5_indexOf 31 = .ok (.aload_n 1, 1) := by decide +kernel
theorem dX5_indexOf_32 : decode cX5_indexOf 32 = .ok (.iload_n 3, 1) := by decide +kernel
theorem dX5_indexOf_33 : decode cX5_indexOf 33 = .ok (.invokevirtual 78, 3) := by decide +kernel
theorem dX5_indexOf_36 : decode cX5_indexOf 36 = .ok (.lreturn, 1) := by decide +kernel
set_option maxRecDepth 20000 in
theorem ggX5_rounds_X5_stands : GoodIn wsX5_rounds wsX5_stands := goodIn_r _ [5] (by decide +kernel) (by decide +kernel)
set_option maxRecDepth 20000 in
theorem gX5_rounds_X5_stands : GoodIn wsX5_rounds (va_wsS RX5 82 yX5_stands wsX5_stands) := goodIn_app (goodIn_of _ (by decide +kernel)) ggX5_rounds_X5_stands
set_option maxRecDepth 20000 in
theorem ggX5_rounds_X5_indexOf : GoodIn wsX5_rounds wsX5_indexOf := goodIn_r _ [9, 10, 11, 12, 4, 13, 14, 15, 16, 17, 18, 19, 20, 21, 22, 23, 24, 25, 26, 27, 28, 29, 30, 31, 32, 33, 34, 35, 36, 37, 38, 39, 40, 41, 42, 43, 44, 45, 46] (by decide +kernel) (by decide +kernel)
set_option maxRecDepth 20000 in
theorem gX5_rounds_X5_indexOf : GoodIn wsX5_rounds (wsV RX5 86 RX5 yX5_indexOf wsX5_indexOf) := goodIn_app (goodIn_of _ (by decide +kernel)) ggX5_rounds_X5_indexOf
set_option maxRecDepth 20000 in
theorem ggX5_rounds_X5_begins : GoodIn wsX5_rounds wsX5_begins := goodIn_r _ [13, 14, 34, 35, 36, 37, 38, 39, 40, 41, 42, 43, 44, 45, 46] (by decide +kernel) (by decide +kernel)
set_option maxRecDepth 20000 in
theorem gX5_rounds_X5_begins : GoodIn wsX5_rounds (wsV RX5 71 RX5 yX5_begins wsX5_begins) := goodIn_app (goodIn_of _ (by decide +kernel)) ggX5_rounds_X5_begins
set_option maxRecDepth 20000 in
theorem ggX5_rounds_X5_round : GoodIn wsX5_rounds wsX5_round := goodIn_r _ [18, 19, 20, 21, 14, 22, 23, 4, 24, 25, 26, 27, 28, 29, 34, 35, 36, 37, 38, 39, 40, 41, 42, 43, 44, 45, 46] (by decide +kernel) (by decide +kernel)
set_option maxRecDepth 20000 in
theorem gX5_rounds_X5_round : GoodIn wsX5_rounds (wsV RX5 74 RX5 yX5_round wsX5_round) := goodIn_app (goodIn_of _ (by decide +kernel)) ggX5_rounds_X5_round
set_option maxRecDepth 20000 in
theorem ggX5_rounds_X5_indexBy : GoodIn wsX5_rounds wsX5_indexBy := goodIn_r _ [33, 21, 14, 34, 35, 36, 37, 38, 39, 40, 41, 42, 43, 44, 45, 46] (by decide +kernel) (by decide +kernel)
set_option maxRecDepth 20000 in
theorem gX5_rounds_X5_indexBy : GoodIn wsX5_rounds (wsV RX5 78 RX5 yX5_indexBy wsX5_indexBy) := goodIn_app (goodIn_of _ (by decide +kernel)) ggX5_rounds_X5_indexBy
theorem dX5_rounds_0 : decode cX5_rounds 0 = .ok (.aload_n 0, 1) := by decide +kernel
theorem dX5_rounds_1 : decode cX5_rounds 1 = .ok (.getfield 7, 3) := by decide +kernel
theorem dX5_rounds_4 : decode cX5_rounds 4 = .ok (.iload_n 1, 1) := by decide +kernel
theorem dX5_rounds_5 : decode cX5_rounds 5 = .ok (.invokestatic 82, 3) := by decide +kernel
theorem dX5_rounds_8 : decode cX5_rounds 8 = .ok (.istore_n 2, 1) := by decide +kernel
theorem dX5_rounds_9 : decode cX5_rounds 9 = .ok (.aload_n 0, 1) := by decide +kernel
theorem dX5_rounds_10 : decode cX5_rounds 10 = .ok (.aload_n 0, 1) := by decide +kernel
theorem dX5_rounds_11 : decode cX5_rounds 11 = .ok (.getfield 7, 3) := by decide +kernel
theorem dX5_rounds_14 : decode cX5_rounds 14 = .ok (.iload_n 1, 1) := by decide +kernel
theorem dX5_rounds_15 : decode cX5_rounds 15 = .ok (.iload_n 2, 1) := by decide +kernel
theorem dX5_rounds_16 : decode cX5_rounds 16 = .ok (.invokevirtual 86, 3) := by decide +kernel
theorem dX5_rounds_19 : decode cX5_rounds 19 = .ok (.lstore_n 3, 1) := by decide +kernel
theorem dX5_rounds_20 : decode cX5_rounds 20 = .ok (.aload_n 0, 1) := by decide +kernel
theorem dX5_rounds_21 : decode cX5_rounds 21 = .ok (.invokevirtual 71, 3) := by decide +kernel
theorem dX5_rounds_24 : decode cX5_rounds 24 = .ok (.iconst 0, 1) := by decide +kernel
theorem dX5_rounds_25 : decode cX5_rounds 25 = .ok (.istore 5, 2) := by decide +kernel
theorem dX5_rounds_27 : decode cX5_rounds 27 = .ok (.iconst 1, 1) := by decide +kernel
theorem dX5_rounds_28 : decode cX5_rounds 28 = .ok (.istore 6, 2) := by decide +kernel
theorem dX5_rounds_30 : decode cX5_rounds 30 = .ok (.iload 6, 2) := by decide +kernel
theorem dX5_rounds_32 : decode cX5_rounds 32 = .ok (.ifCond .eq 40, 3) := by decide +kernel
theorem dX5_rounds_35 : decode cX5_rounds 35 = .ok (.aload_n 0, 1) := by decide +kernel
theorem dX5_rounds_36 : decode cX5_rounds 36 = .ok (.aload_n 0, 1) := by decide +kernel
theorem dX5_rounds_37 : decode cX5_rounds 37 = .ok (.getfield 7, 3) := by decide +kernel
theorem dX5_rounds_40 : decode cX5_rounds 40 = .ok (.iload_n 1, 1) := by decide +kernel
theorem dX5_rounds_41 : decode cX5_rounds 41 = .ok (.iload_n 2, 1) := by decide +kernel
theorem dX5_rounds_42 : decode cX5_rounds 42 = .ok (.invokevirtual 74, 3) := by decide +kernel
theorem dX5_rounds_45 : decode cX5_rounds 45 = .ok (.iinc 5 1, 3) := by decide +kernel
theorem dX5_rounds_48 : decode cX5_rounds 48 = .ok (.aload_n 0, 1) := by decide +kernel
theorem dX5_rounds_49 : decode cX5_rounds 49 = .ok (.aload_n 0, 1) := by decide +kernel
theorem dX5_rounds_50 : decode cX5_rounds 50 = .ok (.getfield 7, 3) := by decide +kernel
theorem dX5_rounds_53 : decode cX5_rounds 53 = .ok (.iload_n 2, 1) := by decide +kernel
theorem dX5_rounds_54 : decode cX5_rounds 54 = .ok (.invokevirtual 78, 3) := by decide +kernel
theorem dX5_rounds_57 : decode cX5_rounds 57 = .ok (.lload_n 3, 1) := by decide +kernel
theorem dX5_rounds_58 : decode cX5_rounds 58 = .ok (.lcmp, 1) := by decide +kernel
theorem dX5_rounds_59 : decode cX5_rounds 59 = .ok (.ifCond .eq 7, 3) := by decide +kernel
theorem dX5_rounds_62 : decode cX5_rounds 62 = .ok (.iconst 1, 1) := by decide +kernel
theorem dX5_rounds_63 : decode cX5_rounds 63 = .ok (.goto 4, 3) := by decide +kernel
theorem dX5_rounds_66 : decode cX5_rounds 66 = .ok (.iconst 0, 1) := by decide +kernel
theorem dX5_rounds_67 : decode cX5_rounds 67 = .ok (.istore 6, 2) := by decide +kernel
theorem dX5_rounds_69 : decode cX5_rounds 69 = .ok (.goto (-39), 3) := by decide +kernel
theorem dX5_rounds_72 : decode cX5_rounds 72 = .ok (.iload 5, 2) := by decide +kernel
theorem dX5_rounds_74 : decode cX5_rounds 74 = .ok (.ireturn, 1) := by decide +kernel
set_option maxRecDepth 20000 in
theorem ggX5_greatest_X5_indexOf : GoodIn wsX5_greatest wsX5_indexOf := goodIn_r _ [6, 7, 8, 9, 5, 10, 11, 12, 13, 14, 15, 16, 17, 18, 19, 20, 21, 22, 23, 24, 25, 26, 27, 28, 29, 30, 31, 32, 33, 34, 35, 36, 37, 38, 39, 40, 41, 42, 43] (by decide +kernel) (by decide +kernel)
set_option maxRecDepth 20000 in
theorem gX5_greatest_X5_indexOf : GoodIn wsX5_greatest (wsV RX5 86 RX5 yX5_indexOf wsX5_indexOf) := goodIn_app (goodIn_of _ (by decide +kernel)) ggX5_greatest_X5_indexOf
theorem dX5_greatest_0 : decode cX5_greatest 0 = .ok (.iconst 0, 1) := by decide +kernel
theorem dX5_greatest_1 : decode cX5_greatest 1 = .ok (.istore_n 2, 1) := by decide +kernel
theorem dX5_greatest_2 : decode cX5_greatest 2 = .ok (.iconst 1, 1) := by decide +kernel
theorem dX5_greatest_3 : decode cX5_greatest 3 = .ok (.istore_n 3, 1) := by decide +kernel
theorem dX5_greatest_4 : decode cX5_greatest 4 = .ok (.iload_n 3, 1) := by decide +kernel
theorem dX5_greatest_5 : decode cX5_greatest 5 = .ok (.iconst 4, 1) := by decide +kernel
theorem dX5_greatest_6 : decode cX5_greatest 6 = .ok (.if_icmp .ge 39, 3) := by decide +kernel
theorem dX5_greatest_9 : decode cX5_greatest 9 = .ok (.aload_n 0, 1) := by decide +kernel
theorem dX5_greatest_10 : decode cX5_greatest 10 = .ok (.aload_n 0, 1) := by decide +kernel
theorem dX5_greatest_11 : decode cX5_greatest 11 = .ok (.getfield 7, 3) := by decide +kernel
theorem dX5_greatest_14 : decode cX5_greatest 14 = .ok (.iload_n 1, 1) := by decide +kernel
theorem dX5_greatest_15 : decode cX5_greatest 15 = .ok (.iload_n 3, 1) := by decide +kernel
theorem dX5_greatest_16 : decode cX5_greatest 16 = .ok (.invokevirtual 86, 3) := by decide +kernel
theorem dX5_greatest_19 : decode cX5_greatest 19 = .ok (.aload_n 0, 1) := by decide +kernel
theorem dX5_greatest_20 : decode cX5_greatest 20 = .ok (.aload_n 0, 1) := by decide +kernel
theorem dX5_greatest_21 : decode cX5_greatest 21 = .ok (.getfield 7, 3) := by decide +kernel
theorem dX5_greatest_24 : decode cX5_greatest 24 = .ok (.iload_n 1, 1) := by decide +kernel
theorem dX5_greatest_25 : decode cX5_greatest 25 = .ok (.iload_n 2, 1) := by decide +kernel
theorem dX5_greatest_26 : decode cX5_greatest 26 = .ok (.invokevirtual 86, 3) := by decide +kernel
theorem dX5_greatest_29 : decode cX5_greatest 29 = .ok (.lcmp, 1) := by decide +kernel
theorem dX5_greatest_30 : decode cX5_greatest 30 = .ok (.ifCond .le 7, 3) := by decide +kernel
theorem dX5_greatest_33 : decode cX5_greatest 33 = .ok (.iload_n 3, 1) := by decide +kernel
theorem dX5_greatest_34 : decode cX5_greatest 34 = .ok (.goto 4, 3) := by decide +kernel
theorem dX5_greatest_37 : decode cX5_greatest 37 = .ok (.iload_n 2, 1) := by decide +kernel
theorem dX5_greatest_38 : decode cX5_greatest 38 = .ok (.istore_n 2, 1) := by decide +kernel
theorem dX5_greatest_39 : decode cX5_greatest 39 = .ok (.iinc 3 1, 3) := by decide +kernel
theorem dX5_greatest_42 : decode cX5_greatest 42 = .ok (.goto (-38), 3) := by decide +kernel
theorem dX5_greatest_45 : decode cX5_greatest 45 = .ok (.iload_n 2, 1) := by decide +kernel
theorem dX5_greatest_46 : decode cX5_greatest 46 = .ok (.ireturn, 1) := by decide +kernel
theorem dX5_draws_0 : decode cX5_draws 0 = .ok (.aload_n 0, 1) := by decide +kernel
theorem dX5_draws_1 : decode cX5_draws 1 = .ok (.bipush 9, 2) := by decide +kernel
theorem dX5_draws_3 : decode cX5_draws 3 = .ok (.aload_n 0, 1) := by decide +kernel
theorem dX5_draws_4 : decode cX5_draws 4 = .ok (.bipush 9, 2) := by decide +kernel
theorem dX5_draws_6 : decode cX5_draws 6 = .ok (.laload, 1) := by decide +kernel
theorem dX5_draws_7 : decode cX5_draws 7 = .ok (.ldc2_w 89, 3) := by decide +kernel
theorem dX5_draws_10 : decode cX5_draws 10 = .ok (.lmul, 1) := by decide +kernel
theorem dX5_draws_11 : decode cX5_draws 11 = .ok (.ldc2_w 91, 3) := by decide +kernel
theorem dX5_draws_14 : decode cX5_draws 14 = .ok (.ladd, 1) := by decide +kernel
theorem dX5_draws_15 : decode cX5_draws 15 = .ok (.lastore, 1) := by decide +kernel
theorem dX5_draws_16 : decode cX5_draws 16 = .ok (.aload_n 0, 1) := by decide +kernel
theorem dX5_draws_17 : decode cX5_draws 17 = .ok (.bipush 9, 2) := by decide +kernel
theorem dX5_draws_19 : decode cX5_draws 19 = .ok (.laload, 1) := by decide +kernel
theorem dX5_draws_20 : decode cX5_draws 20 = .ok (.bipush 61, 2) := by decide +kernel
theorem dX5_draws_22 : decode cX5_draws 22 = .ok (.lushr, 1) := by decide +kernel
theorem dX5_draws_23 : decode cX5_draws 23 = .ok (.l2i, 1) := by decide +kernel
theorem dX5_draws_24 : decode cX5_draws 24 = .ok (.ireturn, 1) := by decide +kernel
set_option maxRecDepth 20000 in
theorem ggX5_goesOn_X5_stands : GoodIn wsX5_goesOn wsX5_stands := goodIn_r _ [4] (by decide +kernel) (by decide +kernel)
set_option maxRecDepth 20000 in
theorem gX5_goesOn_X5_stands : GoodIn wsX5_goesOn (va_wsS RX5 82 yX5_stands wsX5_stands) := goodIn_app (goodIn_of _ (by decide +kernel)) ggX5_goesOn_X5_stands
set_option maxRecDepth 20000 in
theorem ggX5_goesOn_X5_draws : GoodIn wsX5_goesOn wsX5_draws := goodIn_r _ [7, 8, 9] (by decide +kernel) (by decide +kernel)
set_option maxRecDepth 20000 in
theorem gX5_goesOn_X5_draws : GoodIn wsX5_goesOn (va_wsS RX5 93 yX5_draws wsX5_draws) := goodIn_app (goodIn_of _ (by decide +kernel)) ggX5_goesOn_X5_draws
set_option maxRecDepth 20000 in
theorem ggX5_goesOn_X5_of : GoodIn wsX5_goesOn wsX5_of := goodIn_r _ [12] (by decide +kernel) (by decide +kernel)
set_option maxRecDepth 20000 in
theorem gX5_goesOn_X5_of : GoodIn wsX5_goesOn (va_wsS RX5 57 yX5_of wsX5_of) := goodIn_app (goodIn_of _ (by decide +kernel)) ggX5_goesOn_X5_of
theorem dX5_goesOn_0 : decode cX5_goesOn 0 = .ok (.aload_n 0, 1) := by decide +kernel
theorem dX5_goesOn_1 : decode cX5_goesOn 1 = .ok (.iload_n 1, 1) := by decide +kernel
theorem dX5_goesOn_2 : decode cX5_goesOn 2 = .ok (.invokestatic 82, 3) := by decide +kernel
theorem dX5_goesOn_5 : decode cX5_goesOn 5 = .ok (.istore_n 2, 1) := by decide +kernel
theorem dX5_goesOn_6 : decode cX5_goesOn 6 = .ok (.aload_n 0, 1) := by decide +kernel
theorem dX5_goesOn_7 : decode cX5_goesOn 7 = .ok (.invokestatic 93, 3) := by decide +kernel
theorem dX5_goesOn_10 : decode cX5_goesOn 10 = .ok (.aload_n 0, 1) := by decide +kernel
theorem dX5_goesOn_11 : decode cX5_goesOn 11 = .ok (.iload_n 1, 1) := by decide +kernel
theorem dX5_goesOn_12 : decode cX5_goesOn 12 = .ok (.iload_n 2, 1) := by decide +kernel
theorem dX5_goesOn_13 : decode cX5_goesOn 13 = .ok (.iconst 3, 1) := by decide +kernel
theorem dX5_goesOn_14 : decode cX5_goesOn 14 = .ok (.invokestatic 57, 3) := by decide +kernel
theorem dX5_goesOn_17 : decode cX5_goesOn 17 = .ok (.if_icmp .ge 7, 3) := by decide +kernel
theorem dX5_goesOn_20 : decode cX5_goesOn 20 = .ok (.iconst 1, 1) := by decide +kernel
theorem dX5_goesOn_21 : decode cX5_goesOn 21 = .ok (.goto 4, 3) := by decide +kernel
theorem dX5_goesOn_24 : decode cX5_goesOn 24 = .ok (.iconst 0, 1) := by decide +kernel
theorem dX5_goesOn_25 : decode cX5_goesOn 25 = .ok (.istore_n 3, 1) := by decide +kernel
theorem dX5_goesOn_26 : decode cX5_goesOn 26 = .ok (.aload_n 0, 1) := by decide +kernel
theorem dX5_goesOn_27 : decode cX5_goesOn 27 = .ok (.bipush 10, 2) := by decide +kernel
theorem dX5_goesOn_29 : decode cX5_goesOn 29 = .ok (.iconst 2, 1) := by decide +kernel
theorem dX5_goesOn_30 : decode cX5_goesOn 30 = .ok (.iload_n 1, 1) := by decide +kernel
theorem dX5_goesOn_31 : decode cX5_goesOn 31 = .ok (.imul, 1) := by decide +kernel
theorem dX5_goesOn_32 : decode cX5_goesOn 32 = .ok (.iadd, 1) := by decide +kernel
theorem dX5_goesOn_33 : decode cX5_goesOn 33 = .ok (.aload_n 0, 1) := by decide +kernel
theorem dX5_goesOn_34 : decode cX5_goesOn 34 = .ok (.iload_n 1, 1) := by decide +kernel
theorem dX5_goesOn_35 : decode cX5_goesOn 35 = .ok (.iload_n 2, 1) := by decide +kernel
theorem dX5_goesOn_36 : decode cX5_goesOn 36 = .ok (.iload_n 3, 1) := by decide +kernel
theorem dX5_goesOn_37 : decode cX5_goesOn 37 = .ok (.ifCond .eq 7, 3) := by decide +kernel
theorem dX5_goesOn_40 : decode cX5_goesOn 40 = .ok (.iconst 1, 1) := by decide +kernel
theorem dX5_goesOn_41 : decode cX5_goesOn 41 = .ok (.goto 4, 3) := by decide +kernel
theorem dX5_goesOn_44 : decode cX5_goesOn 44 = .ok (.iconst 2, 1) := by decide +kernel
theorem dX5_goesOn_45 : decode cX5_goesOn 45 = .ok (.invokestatic 57, 3) := by decide +kernel
theorem dX5_goesOn_48 : decode cX5_goesOn 48 = .ok (.i2l, 1) := by decide +kernel
theorem dX5_goesOn_49 : decode cX5_goesOn 49 = .ok (.lastore, 1) := by decide +kernel
theorem dX5_goesOn_50 : decode cX5_goesOn 50 = .ok (.return_, 1) := by decide +kernel
theorem dX5_isOther_0 : decode cX5_isOther 0 = .ok (.aload_n 0, 1) := by decide +kernel
theorem dX5_isOther_1 : decode cX5_isOther 1 = .ok (.bipush 6, 2) := by decide +kernel
theorem dX5_isOther_3 : decode cX5_isOther 3 = .ok (.laload, 1) := by decide +kernel
theorem dX5_isOther_4 : decode cX5_isOther 4 = .ok (.ldc2_w 36, 3) := by decide +kernel
theorem dX5_isOther_7 : decode cX5_isOther 7 = .ok (.lcmp, 1) := by decide +kernel
theorem dX5_isOther_8 : decode cX5_isOther 8 = .ok (.ifCond .eq 17, 3) := by decide +kernel
theorem dX5_isOther_11 : decode cX5_isOther 11 = .ok (.aload_n 0, 1) := by decide +kernel
theorem dX5_isOther_12 : decode cX5_isOther 12 = .ok (.bipush 6, 2) := by decide +kernel
theorem dX5_isOther_14 : decode cX5_isOther 14 = .ok (.laload, 1) := by decide +kernel
theorem dX5_isOther_15 : decode cX5_isOther 15 = .ok (.iload_n 1, 1) := by decide +kernel
theorem dX5_isOther_16 : decode cX5_isOther 16 = .ok (.i2l, 1) := by decide +kernel
theorem dX5_isOther_17 : decode cX5_isOther 17 = .ok (.lcmp, 1) := by decide +kernel
theorem dX5_isOther_18 : decode cX5_isOther 18 = .ok (.ifCond .eq 7, 3) := by decide +kernel
theorem dX5_isOther_21 : decode cX5_isOther 21 = .ok (.iconst 1, 1) := by decide +kernel
theorem dX5_isOther_22 : decode cX5_isOther 22 = .ok (.goto 4, 3) := by decide +kernel
theorem dX5_isOther_25 : decode cX5_isOther 25 = .ok (.iconst 0, 1) := by decide +kernel
theorem dX5_isOther_26 : decode cX5_isOther 26 = .ok (.ireturn, 1) := by decide +kernel
theorem dX5_down_0 : decode cX5_down 0 = .ok (.lload_n 0, 1) := by decide +kernel
theorem dX5_down_1 : decode cX5_down 1 = .ok (.lload_n 2, 1) := by decide +kernel
theorem dX5_down_2 : decode cX5_down 2 = .ok (.ldiv, 1) := by decide +kernel
theorem dX5_down_3 : decode cX5_down 3 = .ok (.lstore 4, 2) := by decide +kernel
theorem dX5_down_5 : decode cX5_down 5 = .ok (.lload 4, 2) := by decide +kernel
theorem dX5_down_7 : decode cX5_down 7 = .ok (.lload_n 2, 1) := by decide +kernel
theorem dX5_down_8 : decode cX5_down 8 = .ok (.lmul, 1) := by decide +kernel
theorem dX5_down_9 : decode cX5_down 9 = .ok (.lload_n 0, 1) := by decide +kernel
theorem dX5_down_10 : decode cX5_down 10 = .ok (.lcmp, 1) := by decide +kernel
theorem dX5_down_11 : decode cX5_down 11 = .ok (.ifCond .le 10, 3) := by decide +kernel
theorem dX5_down_14 : decode cX5_down 14 = .ok (.lload 4, 2) := by decide +kernel
theorem dX5_down_16 : decode cX5_down 16 = .ok (.lconst 1, 1) := by decide +kernel
theorem dX5_down_17 : decode cX5_down 17 = .ok (.lsub, 1) := by decide +kernel
theorem dX5_down_18 : decode cX5_down 18 = .ok (.goto 5, 3) := by decide +kernel
theorem dX5_down_21 : decode cX5_down 21 = .ok (.lload 4, 2) := by decide +kernel
theorem dX5_down_23 : decode cX5_down 23 = .ok (.lreturn, 1) := by decide +kernel
set_option maxRecDepth 20000 in
theorem ggX5_pulls_X5_isOther : GoodIn wsX5_pulls wsX5_isOther := goodIn_r _ [7, 8] (by decide +kernel) (by decide +kernel)
set_option maxRecDepth 20000 in
theorem gX5_pulls_X5_isOther : GoodIn wsX5_pulls (va_wsS RX5 97 yX5_isOther wsX5_isOther) := goodIn_app (goodIn_of _ (by decide +kernel)) ggX5_pulls_X5_isOther
set_option maxRecDepth 20000 in
theorem ggX5_pulls_X5_stands : GoodIn wsX5_pulls wsX5_stands := goodIn_r _ [11] (by decide +kernel) (by decide +kernel)
set_option maxRecDepth 20000 in
theorem gX5_pulls_X5_stands : GoodIn wsX5_pulls (va_wsS RX5 82 yX5_stands wsX5_stands) := goodIn_app (goodIn_of _ (by decide +kernel)) ggX5_pulls_X5_stands
set_option maxRecDepth 20000 in
theorem ggX5_pulls_X5_of : GoodIn wsX5_pulls wsX5_of := goodIn_r _ [14] (by decide +kernel) (by decide +kernel)
set_option maxRecDepth 20000 in
theorem gX5_pulls_X5_of : GoodIn wsX5_pulls (va_wsS RX5 57 yX5_of wsX5_of) := goodIn_app (goodIn_of _ (by decide +kernel)) ggX5_pulls_X5_of
set_option maxRecDepth 20000 in
theorem ggX5_pulls_X5_down : GoodIn wsX5_pulls wsX5_down := goodIn_r _ [17] (by decide +kernel) (by decide +kernel)
set_option maxRecDepth 20000 in
theorem gX5_pulls_X5_down : GoodIn wsX5_pulls (va_wsS RX5 101 yX5_down wsX5_down) := goodIn_app (goodIn_of _ (by decide +kernel)) ggX5_pulls_X5_down
set_option maxRecDepth 20000 in
theorem ggX5_pulls_X5_goesOn : GoodIn wsX5_pulls wsX5_goesOn := goodIn_r _ [20, 9, 10, 6, 11, 21, 22, 23, 24, 25, 12, 13, 14] (by decide +kernel) (by decide +kernel)
set_option maxRecDepth 20000 in
theorem gX5_pulls_X5_goesOn : GoodIn wsX5_pulls (va_wsS RX5 105 yX5_goesOn wsX5_goesOn) := goodIn_app (goodIn_of _ (by decide +kernel)) ggX5_pulls_X5_goesOn
theorem dX5_pulls_0 : decode cX5_pulls 0 = .ok (.aload_n 0, 1) := by decide +kernel
theorem dX5_pulls_1 : decode cX5_pulls 1 = .ok (.iload_n 1, 1) := by decide +kernel
theorem dX5_pulls_2 : decode cX5_pulls 2 = .ok (.invokestatic 97, 3) := by decide +kernel
theorem dX5_pulls_5 : decode cX5_pulls 5 = .ok (.istore_n 2, 1) := by decide +kernel
theorem dX5_pulls_6 : decode cX5_pulls 6 = .ok (.ldc2_w 63, 3) := by decide +kernel
theorem dX5_pulls_9 : decode cX5_pulls 9 = .ok (.aload_n 0, 1) := by decide +kernel
theorem dX5_pulls_10 : decode cX5_pulls 10 = .ok (.iload_n 1, 1) := by decide +kernel
theorem dX5_pulls_11 : decode cX5_pulls 11 = .ok (.aload_n 0, 1) := by decide +kernel
theorem dX5_pulls_12 : decode cX5_pulls 12 = .ok (.iload_n 1, 1) := by decide +kernel
theorem dX5_pulls_13 : decode cX5_pulls 13 = .ok (.invokestatic 82, 3) := by decide +kernel
theorem dX5_pulls_16 : decode cX5_pulls 16 = .ok (.iconst 0, 1) := by decide +kernel
theorem dX5_pulls_17 : decode cX5_pulls 17 = .ok (.invokestatic 57, 3) := by decide +kernel
theorem dX5_pulls_20 : decode cX5_pulls 20 = .ok (.i2l, 1) := by decide +kernel
theorem dX5_pulls_21 : decode cX5_pulls 21 = .ok (.lmul, 1) := by decide +kernel
theorem dX5_pulls_22 : decode cX5_pulls 22 = .ok (.iload_n 2, 1) := by decide +kernel
theorem dX5_pulls_23 : decode cX5_pulls 23 = .ok (.ifCond .eq 13, 3) := by decide +kernel
theorem dX5_pulls_26 : decode cX5_pulls 26 = .ok (.ldc2_w 63, 3) := by decide +kernel
theorem dX5_pulls_29 : decode cX5_pulls 29 = .ok (.aload_n 0, 1) := by decide +kernel
theorem dX5_pulls_30 : decode cX5_pulls 30 = .ok (.iconst 2, 1) := by decide +kernel
theorem dX5_pulls_31 : decode cX5_pulls 31 = .ok (.laload, 1) := by decide +kernel
theorem dX5_pulls_32 : decode cX5_pulls 32 = .ok (.lmul, 1) := by decide +kernel
theorem dX5_pulls_33 : decode cX5_pulls 33 = .ok (.goto 4, 3) := by decide +kernel
theorem dX5_pulls_36 : decode cX5_pulls 36 = .ok (.lconst 0, 1) := by decide +kernel
theorem dX5_pulls_37 : decode cX5_pulls 37 = .ok (.lsub, 1) := by decide +kernel
theorem dX5_pulls_38 : decode cX5_pulls 38 = .ok (.lstore_n 3, 1) := by decide +kernel
theorem dX5_pulls_39 : decode cX5_pulls 39 = .ok (.aload_n 0, 1) := by decide +kernel
theorem dX5_pulls_40 : decode cX5_pulls 40 = .ok (.bipush 7, 2) := by decide +kernel
theorem dX5_pulls_42 : decode cX5_pulls 42 = .ok (.dup2, 1) := by decide +kernel
theorem dX5_pulls_43 : decode cX5_pulls 43 = .ok (.laload, 1) := by decide +kernel
theorem dX5_pulls_44 : decode cX5_pulls 44 = .ok (.lload_n 3, 1) := by decide +kernel
theorem dX5_pulls_45 : decode cX5_pulls 45 = .ok (.aload_n 0, 1) := by decide +kernel
theorem dX5_pulls_46 : decode cX5_pulls 46 = .ok (.bipush 8, 2) := by decide +kernel
theorem dX5_pulls_48 : decode cX5_pulls 48 = .ok (.laload, 1) := by decide +kernel
theorem dX5_pulls_49 : decode cX5_pulls 49 = .ok (.lmul, 1) := by decide +kernel
theorem dX5_pulls_50 : decode cX5_pulls 50 = .ok (.ldc2_w 38, 3) := by decide +kernel
theorem dX5_pulls_53 : decode cX5_pulls 53 = .ok (.invokestatic 101, 3) := by decide +kernel
theorem dX5_pulls_56 : decode cX5_pulls 56 = .ok (.ladd, 1) := by decide +kernel
theorem dX5_pulls_57 : decode cX5_pulls 57 = .ok (.lastore, 1) := by decide +kernel
theorem dX5_pulls_58 : decode cX5_pulls 58 = .ok (.aload_n 0, 1) := by decide +kernel
theorem dX5_pulls_59 : decode cX5_pulls 59 = .ok (.bipush 8, 2) := by decide +kernel
theorem dX5_pulls_61 : decode cX5_pulls 61 = .ok (.aload_n 0, 1) := by decide +kernel
theorem dX5_pulls_62 : decode cX5_pulls 62 = .ok (.bipush 8, 2) := by decide +kernel
theorem dX5_pulls_64 : decode cX5_pulls 64 = .ok (.laload, 1) := by decide +kernel
theorem dX5_pulls_65 : decode cX5_pulls 65 = .ok (.aload_n 0, 1) := by decide +kernel
theorem dX5_pulls_66 : decode cX5_pulls 66 = .ok (.iconst 0, 1) := by decide +kernel
theorem dX5_pulls_67 : decode cX5_pulls 67 = .ok (.laload, 1) := by decide +kernel
theorem dX5_pulls_68 : decode cX5_pulls 68 = .ok (.lmul, 1) := by decide +kernel
theorem dX5_pulls_69 : decode cX5_pulls 69 = .ok (.ldc2_w 69, 3) := by decide +kernel
theorem dX5_pulls_72 : decode cX5_pulls 72 = .ok (.ldiv, 1) := by decide +kernel
theorem dX5_pulls_73 : decode cX5_pulls 73 = .ok (.lastore, 1) := by decide +kernel
theorem dX5_pulls_74 : decode cX5_pulls 74 = .ok (.aload_n 0, 1) := by decide +kernel
theorem dX5_pulls_75 : decode cX5_pulls 75 = .ok (.iload_n 1, 1) := by decide +kernel
theorem dX5_pulls_76 : decode cX5_pulls 76 = .ok (.invokestatic 105, 3) := by decide +kernel
theorem dX5_pulls_79 : decode cX5_pulls 79 = .ok (.iconst 0, 1) := by decide +kernel
theorem dX5_pulls_80 : decode cX5_pulls 80 = .ok (.istore 5, 2) := by decide +kernel
theorem dX5_pulls_82 : decode cX5_pulls 82 = .ok (.iload 5, 2) := by decide +kernel
theorem dX5_pulls_84 : decode cX5_pulls 84 = .ok (.iconst 4, 1) := by decide +kernel
theorem dX5_pulls_85 : decode cX5_pulls 85 = .ok (.if_icmp .ge 29, 3) := by decide +kernel
theorem dX5_pulls_88 : decode cX5_pulls 88 = .ok (.aload_n 0, 1) := by decide +kernel
theorem dX5_pulls_89 : decode cX5_pulls 89 = .ok (.iconst 3, 1) := by decide +kernel
theorem dX5_pulls_90 : decode cX5_pulls 90 = .ok (.laload, 1) := by decide +kernel
theorem dX5_pulls_91 : decode cX5_pulls 91 = .ok (.lconst 1, 1) := by decide +kernel
theorem dX5_pulls_92 : decode cX5_pulls 92 = .ok (.lcmp, 1) := by decide +kernel
theorem dX5_pulls_93 : decode cX5_pulls 93 = .ok (.ifCond .ne 21, 3) := by decide +kernel
theorem dX5_pulls_96 : decode cX5_pulls 96 = .ok (.iload 5, 2) := by decide +kernel
theorem dX5_pulls_98 : decode cX5_pulls 98 = .ok (.iload_n 1, 1) := by decide +kernel
theorem dX5_pulls_99 : decode cX5_pulls 99 = .ok (.if_icmp .eq 9, 3) := by decide +kernel
theorem dX5_pulls_102 : decode cX5_pulls 102 = .ok (.aload_n 0, 1) := by decide +kernel
theorem dX5_pulls_103 : decode cX5_pulls 103 = .ok (.iload 5, 2) := by decide +kernel
theorem dX5_pulls_105 : decode cX5_pulls 105 = .ok (.invokestatic 105, 3) := by decide +kernel
theorem dX5_pulls_108 : decode cX5_pulls 108 = .ok (.iinc 5 1, 3) := by decide +kernel
theorem dX5_pulls_111 : decode cX5_pulls 111 = .ok (.goto (-29), 3) := by decide +kernel
theorem dX5_pulls_114 : decode cX5_pulls 114 = .ok (.aload_n 0, 1) := by decide +kernel
theorem dX5_pulls_115 : decode cX5_pulls 115 = .ok (.iconst 4, 1) := by decide +kernel
theorem dX5_pulls_116 : decode cX5_pulls 116 = .ok (.dup2, 1) := by decide +kernel
theorem dX5_pulls_117 : decode cX5_pulls 117 = .ok (.laload, 1) := by decide +kernel
theorem dX5_pulls_118 : decode cX5_pulls 118 = .ok (.lconst 1, 1) := by decide +kernel
theorem dX5_pulls_119 : decode cX5_pulls 119 = .ok (.ladd, 1) := by decide +kernel
theorem dX5_pulls_120 : decode cX5_pulls 120 = .ok (.lastore, 1) := by decide +kernel
theorem dX5_pulls_121 : decode cX5_pulls 121 = .ok (.aload_n 0, 1) := by decide +kernel
theorem dX5_pulls_122 : decode cX5_pulls 122 = .ok (.iconst 5, 1) := by decide +kernel
theorem dX5_pulls_123 : decode cX5_pulls 123 = .ok (.dup2, 1) := by decide +kernel
theorem dX5_pulls_124 : decode cX5_pulls 124 = .ok (.laload, 1) := by decide +kernel
theorem dX5_pulls_125 : decode cX5_pulls 125 = .ok (.iload_n 2, 1) := by decide +kernel
theorem dX5_pulls_126 : decode cX5_pulls 126 = .ok (.ifCond .eq 7, 3) := by decide +kernel
theorem dX5_pulls_129 : decode cX5_pulls 129 = .ok (.lconst 1, 1) := by decide +kernel
theorem dX5_pulls_130 : decode cX5_pulls 130 = .ok (.goto 4, 3) := by decide +kernel
theorem dX5_pulls_133 : decode cX5_pulls 133 = .ok (.lconst 0, 1) := by decide +kernel
theorem dX5_pulls_134 : decode cX5_pulls 134 = .ok (.ladd, 1) := by decide +kernel
theorem dX5_pulls_135 : decode cX5_pulls 135 = .ok (.lastore, 1) := by decide +kernel
theorem dX5_pulls_136 : decode cX5_pulls 136 = .ok (.aload_n 0, 1) := by decide +kernel
theorem dX5_pulls_137 : decode cX5_pulls 137 = .ok (.bipush 6, 2) := by decide +kernel
theorem dX5_pulls_139 : decode cX5_pulls 139 = .ok (.iload_n 1, 1) := by decide +kernel
theorem dX5_pulls_140 : decode cX5_pulls 140 = .ok (.i2l, 1) := by decide +kernel
theorem dX5_pulls_141 : decode cX5_pulls 141 = .ok (.lastore, 1) := by decide +kernel
theorem dX5_pulls_142 : decode cX5_pulls 142 = .ok (.aload_n 0, 1) := by decide +kernel
theorem dX5_pulls_143 : decode cX5_pulls 143 = .ok (.bipush 10, 2) := by decide +kernel
theorem dX5_pulls_145 : decode cX5_pulls 145 = .ok (.iconst 2, 1) := by decide +kernel
theorem dX5_pulls_146 : decode cX5_pulls 146 = .ok (.iload_n 1, 1) := by decide +kernel
theorem dX5_pulls_147 : decode cX5_pulls 147 = .ok (.imul, 1) := by decide +kernel
theorem dX5_pulls_148 : decode cX5_pulls 148 = .ok (.iadd, 1) := by decide +kernel
theorem dX5_pulls_149 : decode cX5_pulls 149 = .ok (.iconst 1, 1) := by decide +kernel
theorem dX5_pulls_150 : decode cX5_pulls 150 = .ok (.iadd, 1) := by decide +kernel
theorem dX5_pulls_151 : decode cX5_pulls 151 = .ok (.dup2, 1) := by decide +kernel
theorem dX5_pulls_152 : decode cX5_pulls 152 = .ok (.laload, 1) := by decide +kernel
theorem dX5_pulls_153 : decode cX5_pulls 153 = .ok (.lconst 1, 1) := by decide +kernel
theorem dX5_pulls_154 : decode cX5_pulls 154 = .ok (.ladd, 1) := by decide +kernel
theorem dX5_pulls_155 : decode cX5_pulls 155 = .ok (.lastore, 1) := by decide +kernel
theorem dX5_pulls_156 : decode cX5_pulls 156 = .ok (.return_, 1) := by decide +kernel
set_option maxRecDepth 20000 in
theorem ggX5_worth_X5_isOther : GoodIn wsX5_worth wsX5_isOther := goodIn_r _ [6, 7] (by decide +kernel) (by decide +kernel)
set_option maxRecDepth 20000 in
theorem gX5_worth_X5_isOther : GoodIn wsX5_worth (va_wsS RX5 97 yX5_isOther wsX5_isOther) := goodIn_app (goodIn_of _ (by decide +kernel)) ggX5_worth_X5_isOther
set_option maxRecDepth 20000 in
theorem ggX5_worth_X5_stands : GoodIn wsX5_worth wsX5_stands := goodIn_r _ [10] (by decide +kernel) (by decide +kernel)
set_option maxRecDepth 20000 in
theorem gX5_worth_X5_stands : GoodIn wsX5_worth (va_wsS RX5 82 yX5_stands wsX5_stands) := goodIn_app (goodIn_of _ (by decide +kernel)) ggX5_worth_X5_stands
set_option maxRecDepth 20000 in
theorem ggX5_worth_X5_indexOf : GoodIn wsX5_worth wsX5_indexOf := goodIn_r _ [14, 15, 16, 17, 5, 18, 19, 20, 21, 22, 23, 24, 25, 2, 26, 27, 28, 29, 30, 31, 32, 33, 34, 35, 36, 37, 38, 39, 40, 41, 42, 43, 44, 45, 46, 47, 48, 49, 50] (by decide +kernel) (by decide +kernel)
set_option maxRecDepth 20000 in
theorem gX5_worth_X5_indexOf : GoodIn wsX5_worth (wsV RX5 86 RX5 yX5_indexOf wsX5_indexOf) := goodIn_app (goodIn_of _ (by decide +kernel)) ggX5_worth_X5_indexOf
set_option maxRecDepth 20000 in
theorem ggX5_worth_X5_of : GoodIn wsX5_worth wsX5_of := goodIn_r _ [28] (by decide +kernel) (by decide +kernel)
set_option maxRecDepth 20000 in
theorem gX5_worth_X5_of : GoodIn wsX5_worth (va_wsS RX5 57 yX5_of wsX5_of) := goodIn_app (goodIn_of _ (by decide +kernel)) ggX5_worth_X5_of
theorem dX5_worth_0 : decode cX5_worth 0 = .ok (.aload_n 1, 1) := by decide +kernel
theorem dX5_worth_1 : decode cX5_worth 1 = .ok (.iload_n 2, 1) := by decide +kernel
theorem dX5_worth_2 : decode cX5_worth 2 = .ok (.invokestatic 97, 3) := by decide +kernel
theorem dX5_worth_5 : decode cX5_worth 5 = .ok (.ifCond .eq 9, 3) := by decide +kernel
theorem dX5_worth_8 : decode cX5_worth 8 = .ok (.aload_n 1, 1) := by decide +kernel
theorem dX5_worth_9 : decode cX5_worth 9 = .ok (.iconst 2, 1) := by decide +kernel
theorem dX5_worth_10 : decode cX5_worth 10 = .ok (.laload, 1) := by decide +kernel
theorem dX5_worth_11 : decode cX5_worth 11 = .ok (.goto 4, 3) := by decide +kernel
theorem dX5_worth_14 : decode cX5_worth 14 = .ok (.lconst 0, 1) := by decide +kernel
theorem dX5_worth_15 : decode cX5_worth 15 = .ok (.lstore 4, 2) := by decide +kernel
theorem dX5_worth_17 : decode cX5_worth 17 = .ok (.iload_n 3, 1) := by decide +kernel
theorem dX5_worth_18 : decode cX5_worth 18 = .ok (.ifCond .ne 32, 3) := by decide +kernel
theorem dX5_worth_21 : decode cX5_worth 21 = .ok (.aload_n 0, 1) := by decide +kernel
theorem dX5_worth_22 : decode cX5_worth 22 = .ok (.aload_n 1, 1) := by decide +kernel
theorem dX5_worth_23 : decode cX5_worth 23 = .ok (.iload_n 2, 1) := by decide +kernel
theorem dX5_worth_24 : decode cX5_worth 24 = .ok (.aload_n 1, 1) := by decide +kernel
theorem dX5_worth_25 : decode cX5_worth 25 = .ok (.iload_n 2, 1) := by decide +kernel
theorem dX5_worth_26 : decode cX5_worth 26 = .ok (.invokestatic 82, 3) := by decide +kernel
theorem dX5_worth_29 : decode cX5_worth 29 = .ok (.invokevirtual 86, 3) := by decide +kernel
theorem dX5_worth_32 : decode cX5_worth 32 = .ok (.ldc2_w 109, 3) := by decide +kernel
theorem dX5_worth_35 : decode cX5_worth 35 = .ok (.lload 4, 2) := by decide +kernel
theorem dX5_worth_37 : decode cX5_worth 37 = .ok (.lmul, 1) := by decide +kernel
theorem dX5_worth_38 : decode cX5_worth 38 = .ok (.ldc2_w 69, 3) := by decide +kernel
theorem dX5_worth_41 : decode cX5_worth 41 = .ok (.aload_n 1, 1) := by decide +kernel
theorem dX5_worth_42 : decode cX5_worth 42 = .ok (.iconst 0, 1) := by decide +kernel
theorem dX5_worth_43 : decode cX5_worth 43 = .ok (.laload, 1) := by decide +kernel
theorem dX5_worth_44 : decode cX5_worth 44 = .ok (.lsub, 1) := by decide +kernel
theorem dX5_worth_45 : decode cX5_worth 45 = .ok (.lmul, 1) := by decide +kernel
theorem dX5_worth_46 : decode cX5_worth 46 = .ok (.lsub, 1) := by decide +kernel
theorem dX5_worth_47 : decode cX5_worth 47 = .ok (.goto 18, 3) := by decide +kernel
theorem dX5_worth_50 : decode cX5_worth 50 = .ok (.aload_n 1, 1) := by decide +kernel
theorem dX5_worth_51 : decode cX5_worth 51 = .ok (.iload_n 2, 1) := by decide +kernel
theorem dX5_worth_52 : decode cX5_worth 52 = .ok (.aload_n 1, 1) := by decide +kernel
theorem dX5_worth_53 : decode cX5_worth 53 = .ok (.iload_n 2, 1) := by decide +kernel
theorem dX5_worth_54 : decode cX5_worth 54 = .ok (.invokestatic 82, 3) := by decide +kernel
theorem dX5_worth_57 : decode cX5_worth 57 = .ok (.iconst 0, 1) := by decide +kernel
theorem dX5_worth_58 : decode cX5_worth 58 = .ok (.invokestatic 57, 3) := by decide +kernel
theorem dX5_worth_61 : decode cX5_worth 61 = .ok (.i2l, 1) := by decide +kernel
theorem dX5_worth_62 : decode cX5_worth 62 = .ok (.lload 4, 2) := by decide +kernel
theorem dX5_worth_64 : decode cX5_worth 64 = .ok (.lsub, 1) := by decide +kernel
theorem dX5_worth_65 : decode cX5_worth 65 = .ok (.lreturn, 1) := by decide +kernel
set_option maxRecDepth 20000 in
theorem ggX5_chosen_X5_worth : GoodIn wsX5_chosen wsX5_worth := goodIn_r _ [6, 7, 8, 9, 10, 5, 11, 1, 12, 13, 14, 15, 16, 17, 18, 19, 20, 21, 22, 23, 24, 25, 26, 27, 28, 29, 30, 31, 32, 33, 34, 35, 36, 37, 38, 39, 40, 41, 42, 43, 44, 45, 46, 47, 48, 49, 50, 51, 52, 53, 54] (by decide +kernel) (by decide +kernel)
set_option maxRecDepth 20000 in
theorem gX5_chosen_X5_worth : GoodIn wsX5_chosen (wsV RX5 111 RX5 yX5_worth wsX5_worth) := goodIn_app (goodIn_of _ (by decide +kernel)) ggX5_chosen_X5_worth
theorem dX5_chosen_0 : decode cX5_chosen 0 = .ok (.iload_n 2, 1) := by decide +kernel
theorem dX5_chosen_1 : decode cX5_chosen 1 = .ok (.iconst 2, 1) := by decide +kernel
theorem dX5_chosen_2 : decode cX5_chosen 2 = .ok (.if_icmp .ne 13, 3) := by decide +kernel
theorem dX5_chosen_5 : decode cX5_chosen 5 = .ok (.aload_n 1, 1) := by decide +kernel
theorem dX5_chosen_6 : decode cX5_chosen 6 = .ok (.bipush 6, 2) := by decide +kernel
theorem dX5_chosen_8 : decode cX5_chosen 8 = .ok (.laload, 1) := by decide +kernel
theorem dX5_chosen_9 : decode cX5_chosen 9 = .ok (.lconst 1, 1) := by decide +kernel
theorem dX5_chosen_10 : decode cX5_chosen 10 = .ok (.ladd, 1) := by decide +kernel
theorem dX5_chosen_11 : decode cX5_chosen 11 = .ok (.l2i, 1) := by decide +kernel
theorem dX5_chosen_12 : decode cX5_chosen 12 = .ok (.iconst 4, 1) := by decide +kernel
theorem dX5_chosen_13 : decode cX5_chosen 13 = .ok (.irem, 1) := by decide +kernel
theorem dX5_chosen_14 : decode cX5_chosen 14 = .ok (.ireturn, 1) := by decide +kernel
theorem dX5_chosen_15 : decode cX5_chosen 15 = .ok (.aload_n 1, 1) := by decide +kernel
theorem dX5_chosen_16 : decode cX5_chosen 16 = .ok (.bipush 6, 2) := by decide +kernel
theorem dX5_chosen_18 : decode cX5_chosen 18 = .ok (.laload, 1) := by decide +kernel
theorem dX5_chosen_19 : decode cX5_chosen 19 = .ok (.ldc2_w 36, 3) := by decide +kernel
theorem dX5_chosen_22 : decode cX5_chosen 22 = .ok (.lcmp, 1) := by decide +kernel
theorem dX5_chosen_23 : decode cX5_chosen 23 = .ok (.ifCond .ne 7, 3) := by decide +kernel
theorem dX5_chosen_26 : decode cX5_chosen 26 = .ok (.iconst 0, 1) := by decide +kernel
theorem dX5_chosen_27 : decode cX5_chosen 27 = .ok (.goto 8, 3) := by decide +kernel
theorem dX5_chosen_30 : decode cX5_chosen 30 = .ok (.aload_n 1, 1) := by decide +kernel
theorem dX5_chosen_31 : decode cX5_chosen 31 = .ok (.bipush 6, 2) := by decide +kernel
theorem dX5_chosen_33 : decode cX5_chosen 33 = .ok (.laload, 1) := by decide +kernel
theorem dX5_chosen_34 : decode cX5_chosen 34 = .ok (.l2i, 1) := by decide +kernel
theorem dX5_chosen_35 : decode cX5_chosen 35 = .ok (.istore_n 3, 1) := by decide +kernel
theorem dX5_chosen_36 : decode cX5_chosen 36 = .ok (.aload_n 0, 1) := by decide +kernel
theorem dX5_chosen_37 : decode cX5_chosen 37 = .ok (.aload_n 1, 1) := by decide +kernel
theorem dX5_chosen_38 : decode cX5_chosen 38 = .ok (.iload_n 3, 1) := by decide +kernel
theorem dX5_chosen_39 : decode cX5_chosen 39 = .ok (.iload_n 2, 1) := by decide +kernel
theorem dX5_chosen_40 : decode cX5_chosen 40 = .ok (.invokevirtual 111, 3) := by decide +kernel
theorem dX5_chosen_43 : decode cX5_chosen 43 = .ok (.lstore 4, 2) := by decide +kernel
theorem dX5_chosen_45 : decode cX5_chosen 45 = .ok (.iconst 0, 1) := by decide +kernel
theorem dX5_chosen_46 : decode cX5_chosen 46 = .ok (.istore 6, 2) := by decide +kernel
theorem dX5_chosen_48 : decode cX5_chosen 48 = .ok (.iload 6, 2) := by decide +kernel
theorem dX5_chosen_50 : decode cX5_chosen 50 = .ok (.iconst 4, 1) := by decide +kernel
theorem dX5_chosen_51 : decode cX5_chosen 51 = .ok (.if_icmp .ge 51, 3) := by decide +kernel
theorem dX5_chosen_54 : decode cX5_chosen 54 = .ok (.aload_n 0, 1) := by decide +kernel
theorem dX5_chosen_55 : decode cX5_chosen 55 = .ok (.aload_n 1, 1) := by decide +kernel
theorem dX5_chosen_56 : decode cX5_chosen 56 = .ok (.iload 6, 2) := by decide +kernel
theorem dX5_chosen_58 : decode cX5_chosen 58 = .ok (.iload_n 2, 1) := by decide +kernel
theorem dX5_chosen_59 : decode cX5_chosen 59 = .ok (.invokevirtual 111, 3) := by decide +kernel
theorem dX5_chosen_62 : decode cX5_chosen 62 = .ok (.lstore 7, 2) := by decide +kernel
theorem dX5_chosen_64 : decode cX5_chosen 64 = .ok (.lload 7, 2) := by decide +kernel
theorem dX5_chosen_66 : decode cX5_chosen 66 = .ok (.lload 4, 2) := by decide +kernel
theorem dX5_chosen_68 : decode cX5_chosen 68 = .ok (.lcmp, 1) := by decide +kernel
theorem dX5_chosen_69 : decode cX5_chosen 69 = .ok (.ifCond .le 8, 3) := by decide +kernel
theorem dX5_chosen_72 : decode cX5_chosen 72 = .ok (.iload 6, 2) := by decide +kernel
theorem dX5_chosen_74 : decode cX5_chosen 74 = .ok (.goto 4, 3) := by decide +kernel
theorem dX5_chosen_77 : decode cX5_chosen 77 = .ok (.iload_n 3, 1) := by decide +kernel
theorem dX5_chosen_78 : decode cX5_chosen 78 = .ok (.istore_n 3, 1) := by decide +kernel
theorem dX5_chosen_79 : decode cX5_chosen 79 = .ok (.lload 7, 2) := by decide +kernel
theorem dX5_chosen_81 : decode cX5_chosen 81 = .ok (.lload 4, 2) := by decide +kernel
theorem dX5_chosen_83 : decode cX5_chosen 83 = .ok (.lcmp, 1) := by decide +kernel
theorem dX5_chosen_84 : decode cX5_chosen 84 = .ok (.ifCond .le 8, 3) := by decide +kernel
theorem dX5_chosen_87 : decode cX5_chosen 87 = .ok (.lload 7, 2) := by decide +kernel
theorem dX5_chosen_89 : decode cX5_chosen 89 = .ok (.goto 5, 3) := by decide +kernel
theorem dX5_chosen_92 : decode cX5_chosen 92 = .ok (.lload 4, 2) := by decide +kernel
theorem dX5_chosen_94 : decode cX5_chosen 94 = .ok (.lstore 4, 2) := by decide +kernel
theorem dX5_chosen_96 : decode cX5_chosen 96 = .ok (.iinc 6 1, 3) := by decide +kernel
theorem dX5_chosen_99 : decode cX5_chosen 99 = .ok (.goto (-51), 3) := by decide +kernel
theorem dX5_chosen_102 : decode cX5_chosen 102 = .ok (.iload_n 3, 1) := by decide +kernel
theorem dX5_chosen_103 : decode cX5_chosen 103 = .ok (.ireturn, 1) := by decide +kernel
set_option maxRecDepth 20000 in
theorem ggX5_plays_X5_chosen : GoodIn wsX5_plays wsX5_chosen := goodIn_r _ [5, 6, 7, 8, 9, 4, 10, 11, 12, 13, 14, 15, 16, 17, 18, 19, 20, 21, 22, 23, 24, 25, 26, 27, 28, 29, 30, 31, 32, 33, 34, 35, 36, 37, 38, 39, 40, 41, 42, 43, 44, 45, 61, 62, 63, 64, 65, 66, 67, 68, 69, 70, 71, 72, 73] (by decide +kernel) (by decide +kernel)
set_option maxRecDepth 20000 in
theorem gX5_plays_X5_chosen : GoodIn wsX5_plays (wsV RX5 114 RX5 yX5_chosen wsX5_chosen) := goodIn_app (goodIn_of _ (by decide +kernel)) ggX5_plays_X5_chosen
set_option maxRecDepth 20000 in
theorem ggX5_plays_X5_pulls : GoodIn wsX5_plays wsX5_pulls := goodIn_r _ [48, 33, 49, 12, 13, 14, 4, 15, 6, 16, 17, 18, 34, 35, 36, 50, 51, 52, 53, 54, 55, 56, 57, 58, 59, 60] (by decide +kernel) (by decide +kernel)
set_option maxRecDepth 20000 in
theorem gX5_plays_X5_pulls : GoodIn wsX5_plays (va_wsS RX5 117 yX5_pulls wsX5_pulls) := goodIn_app (goodIn_of _ (by decide +kernel)) ggX5_plays_X5_pulls
theorem dX5_plays_0 : decode cX5_plays 0 = .ok (.iconst 0, 1) := by decide +kernel
theorem dX5_plays_1 : decode cX5_plays 1 = .ok (.istore 4, 2) := by decide +kernel
theorem dX5_plays_3 : decode cX5_plays 3 = .ok (.iload 4, 2) := by decide +kernel
theorem dX5_plays_5 : decode cX5_plays 5 = .ok (.iload_n 3, 1) := by decide +kernel
theorem dX5_plays_6 : decode cX5_plays 6 = .ok (.if_icmp .ge 19, 3) := by decide +kernel
theorem dX5_plays_9 : decode cX5_plays 9 = .ok (.aload_n 1, 1) := by decide +kernel
theorem dX5_plays_10 : decode cX5_plays 10 = .ok (.aload_n 0, 1) := by decide +kernel
theorem dX5_plays_11 : decode cX5_plays 11 = .ok (.aload_n 1, 1) := by decide +kernel
theorem dX5_plays_12 : decode cX5_plays 12 = .ok (.iload_n 2, 1) := by decide +kernel
theorem dX5_plays_13 : decode cX5_plays 13 = .ok (.invokevirtual 114, 3) := by decide +kernel
theorem dX5_plays_16 : decode cX5_plays 16 = .ok (.invokestatic 117, 3) := by decide +kernel
theorem dX5_plays_19 : decode cX5_plays 19 = .ok (.iinc 4 1, 3) := by decide +kernel
theorem dX5_plays_22 : decode cX5_plays 22 = .ok (.goto (-19), 3) := by decide +kernel
theorem dX5_plays_25 : decode cX5_plays 25 = .ok (.return_, 1) := by decide +kernel
theorem dX5_changes_0 : decode cX5_changes 0 = .ok (.aload_n 0, 1) := by decide +kernel
theorem dX5_changes_1 : decode cX5_changes 1 = .ok (.getfield 7, 3) := by decide +kernel
theorem dX5_changes_4 : decode cX5_changes 4 = .ok (.iload_n 1, 1) := by decide +kernel
theorem dX5_changes_5 : decode cX5_changes 5 = .ok (.laload, 1) := by decide +kernel
theorem dX5_changes_6 : decode cX5_changes 6 = .ok (.l2i, 1) := by decide +kernel
theorem dX5_changes_7 : decode cX5_changes 7 = .ok (.istore_n 3, 1) := by decide +kernel
theorem dX5_changes_8 : decode cX5_changes 8 = .ok (.aload_n 0, 1) := by decide +kernel
theorem dX5_changes_9 : decode cX5_changes 9 = .ok (.getfield 7, 3) := by decide +kernel
theorem dX5_changes_12 : decode cX5_changes 12 = .ok (.iload_n 1, 1) := by decide +kernel
theorem dX5_changes_13 : decode cX5_changes 13 = .ok (.iload_n 2, 1) := by decide +kernel
theorem dX5_changes_14 : decode cX5_changes 14 = .ok (.i2l, 1) := by decide +kernel
theorem dX5_changes_15 : decode cX5_changes 15 = .ok (.lastore, 1) := by decide +kernel
theorem dX5_changes_16 : decode cX5_changes 16 = .ok (.iload_n 3, 1) := by decide +kernel
theorem dX5_changes_17 : decode cX5_changes 17 = .ok (.ireturn, 1) := by decide +kernel
set_option maxRecDepth 20000 in
theorem ggX5_gift_X5_isArm : GoodIn wsX5_gift wsX5_isArm := goodIn_r _ [5, 6, 7, 4, 8] (by decide +kernel) (by decide +kernel)
set_option maxRecDepth 20000 in
theorem gX5_gift_X5_isArm : GoodIn wsX5_gift (va_wsS RX5 120 yX5_isArm wsX5_isArm) := goodIn_app (goodIn_of _ (by decide +kernel)) ggX5_gift_X5_isArm
set_option maxRecDepth 20000 in
theorem ggX5_gift_X5_isState : GoodIn wsX5_gift wsX5_isState := goodIn_r _ [11, 6, 7, 4, 8] (by decide +kernel) (by decide +kernel)
set_option maxRecDepth 20000 in
theorem gX5_gift_X5_isState : GoodIn wsX5_gift (va_wsS RX5 124 yX5_isState wsX5_isState) := goodIn_app (goodIn_of _ (by decide +kernel)) ggX5_gift_X5_isState
set_option maxRecDepth 20000 in
theorem ggX5_gift_X5_fails : GoodIn wsX5_gift wsX5_fails := goodIn_r _ [15, 1, 27, 28, 29, 30, 31, 32, 33, 34, 35, 36, 37, 38, 39] (by decide +kernel) (by decide +kernel)
set_option maxRecDepth 20000 in
theorem gX5_gift_X5_fails : GoodIn wsX5_gift (wsV RX5 53 RX5 yX5_fails wsX5_fails) := goodIn_app (goodIn_of _ (by decide +kernel)) ggX5_gift_X5_fails
set_option maxRecDepth 20000 in
theorem ggX5_gift_X5_in : GoodIn wsX5_gift wsX5_in := goodIn_r _ [8] (by decide +kernel) (by decide +kernel)
set_option maxRecDepth 20000 in
theorem gX5_gift_X5_in : GoodIn wsX5_gift (va_wsS RX5 46 yX5_in wsX5_in) := goodIn_app (goodIn_of _ (by decide +kernel)) ggX5_gift_X5_in
set_option maxRecDepth 20000 in
theorem ggX5_gift_X5_saves : GoodIn wsX5_gift wsX5_saves := goodIn_r _ [19, 20, 21, 22, 27, 28, 29, 30, 31, 32, 33, 34, 35, 36, 37, 38, 39] (by decide +kernel) (by decide +kernel)
set_option maxRecDepth 20000 in
theorem gX5_gift_X5_saves : GoodIn wsX5_gift (wsV RX5 127 RX5 yX5_saves wsX5_saves) := goodIn_app (goodIn_of _ (by decide +kernel)) ggX5_gift_X5_saves
set_option maxRecDepth 20000 in
theorem ggX5_gift_X5_changes : GoodIn wsX5_gift wsX5_changes := goodIn_r _ [26, 22, 27, 28, 29, 30, 31, 32, 33, 34, 35, 36, 37, 38, 39] (by decide +kernel) (by decide +kernel)
set_option maxRecDepth 20000 in
theorem gX5_gift_X5_changes : GoodIn wsX5_gift (wsV RX5 130 RX5 yX5_changes wsX5_changes) := goodIn_app (goodIn_of _ (by decide +kernel)) ggX5_gift_X5_changes
theorem dX5_gift_0 : decode cX5_gift 0 = .ok (.aload_n 0, 1) := by decide +kernel
theorem dX5_gift_1 : decode cX5_gift 1 = .ok (.iconst 0, 1) := by decide +kernel
theorem dX5_gift_2 : decode cX5_gift 2 = .ok (.putfield 42, 3) := by decide +kernel
theorem dX5_gift_5 : decode cX5_gift 5 = .ok (.iload_n 1, 1) := by decide +kernel
theorem dX5_gift_6 : decode cX5_gift 6 = .ok (.invokestatic 120, 3) := by decide +kernel
theorem dX5_gift_9 : decode cX5_gift 9 = .ok (.ifCond .eq 10, 3) := by decide +kernel
theorem dX5_gift_12 : decode cX5_gift 12 = .ok (.iload_n 2, 1) := by decide +kernel
theorem dX5_gift_13 : decode cX5_gift 13 = .ok (.invokestatic 124, 3) := by decide +kernel
theorem dX5_gift_16 : decode cX5_gift 16 = .ok (.ifCond .ne 9, 3) := by decide +kernel
theorem dX5_gift_19 : decode cX5_gift 19 = .ok (.aload_n 0, 1) := by decide +kernel
theorem dX5_gift_20 : decode cX5_gift 20 = .ok (.iconst 1, 1) := by decide +kernel
theorem dX5_gift_21 : decode cX5_gift 21 = .ok (.invokevirtual 53, 3) := by decide +kernel
theorem dX5_gift_24 : decode cX5_gift 24 = .ok (.ireturn, 1) := by decide +kernel
theorem dX5_gift_25 : decode cX5_gift 25 = .ok (.iload_n 3, 1) := by decide +kernel
theorem dX5_gift_26 : decode cX5_gift 26 = .ok (.i2l, 1) := by decide +kernel
theorem dX5_gift_27 : decode cX5_gift 27 = .ok (.iconst 0, 1) := by decide +kernel
theorem dX5_gift_28 : decode cX5_gift 28 = .ok (.bipush 99, 2) := by decide +kernel
theorem dX5_gift_30 : decode cX5_gift 30 = .ok (.invokestatic 46, 3) := by decide +kernel
theorem dX5_gift_33 : decode cX5_gift 33 = .ok (.ifCond .ne 9, 3) := by decide +kernel
theorem dX5_gift_36 : decode cX5_gift 36 = .ok (.aload_n 0, 1) := by decide +kernel
theorem dX5_gift_37 : decode cX5_gift 37 = .ok (.iconst 2, 1) := by decide +kernel
theorem dX5_gift_38 : decode cX5_gift 38 = .ok (.invokevirtual 53, 3) := by decide +kernel
theorem dX5_gift_41 : decode cX5_gift 41 = .ok (.ireturn, 1) := by decide +kernel
theorem dX5_gift_42 : decode cX5_gift 42 = .ok (.aload_n 0, 1) := by decide +kernel
theorem dX5_gift_43 : decode cX5_gift 43 = .ok (.invokevirtual 127, 3) := by decide +kernel
theorem dX5_gift_46 : decode cX5_gift 46 = .ok (.aload_n 0, 1) := by decide +kernel
theorem dX5_gift_47 : decode cX5_gift 47 = .ok (.bipush 18, 2) := by decide +kernel
theorem dX5_gift_49 : decode cX5_gift 49 = .ok (.iconst 4, 1) := by decide +kernel
theorem dX5_gift_50 : decode cX5_gift 50 = .ok (.iconst 4, 1) := by decide +kernel
theorem dX5_gift_51 : decode cX5_gift 51 = .ok (.iload_n 1, 1) := by decide +kernel
theorem dX5_gift_52 : decode cX5_gift 52 = .ok (.imul, 1) := by decide +kernel
theorem dX5_gift_53 : decode cX5_gift 53 = .ok (.iload_n 2, 1) := by decide +kernel
theorem dX5_gift_54 : decode cX5_gift 54 = .ok (.iadd, 1) := by decide +kernel
theorem dX5_gift_55 : decode cX5_gift 55 = .ok (.imul, 1) := by decide +kernel
theorem dX5_gift_56 : decode cX5_gift 56 = .ok (.iadd, 1) := by decide +kernel
theorem dX5_gift_57 : decode cX5_gift 57 = .ok (.iload_n 3, 1) := by decide +kernel
theorem dX5_gift_58 : decode cX5_gift 58 = .ok (.invokevirtual 130, 3) := by decide +kernel
theorem dX5_gift_61 : decode cX5_gift 61 = .ok (.ireturn, 1) := by decide +kernel
set_option maxRecDepth 20000 in
theorem ggX5_ways_X5_changes : GoodIn wsX5_ways wsX5_changes := goodIn_r _ [5, 6, 7, 8, 9, 10, 11, 12, 13, 14, 15, 16, 17, 18, 19] (by decide +kernel) (by decide +kernel)
set_option maxRecDepth 20000 in
theorem gX5_ways_X5_changes : GoodIn wsX5_ways (wsV RX5 130 RX5 yX5_changes wsX5_changes) := goodIn_app (goodIn_of _ (by decide +kernel)) ggX5_ways_X5_changes
theorem dX5_ways_0 : decode cX5_ways 0 = .ok (.bipush 18, 2) := by decide +kernel
theorem dX5_ways_2 : decode cX5_ways 2 = .ok (.iconst 4, 1) := by decide +kernel
theorem dX5_ways_3 : decode cX5_ways 3 = .ok (.iconst 4, 1) := by decide +kernel
theorem dX5_ways_4 : decode cX5_ways 4 = .ok (.iload_n 1, 1) := by decide +kernel
theorem dX5_ways_5 : decode cX5_ways 5 = .ok (.imul, 1) := by decide +kernel
theorem dX5_ways_6 : decode cX5_ways 6 = .ok (.iload_n 2, 1) := by decide +kernel
theorem dX5_ways_7 : decode cX5_ways 7 = .ok (.iadd, 1) := by decide +kernel
theorem dX5_ways_8 : decode cX5_ways 8 = .ok (.imul, 1) := by decide +kernel
theorem dX5_ways_9 : decode cX5_ways 9 = .ok (.iadd, 1) := by decide +kernel
theorem dX5_ways_10 : decode cX5_ways 10 = .ok (.istore 6, 2) := by decide +kernel
theorem dX5_ways_12 : decode cX5_ways 12 = .ok (.bipush 100, 2) := by decide +kernel
theorem dX5_ways_14 : decode cX5_ways 14 = .ok (.aload_n 0, 1) := by decide +kernel
theorem dX5_ways_15 : decode cX5_ways 15 = .ok (.iload 6, 2) := by decide +kernel
theorem dX5_ways_17 : decode cX5_ways 17 = .ok (.iconst 1, 1) := by decide +kernel
theorem dX5_ways_18 : decode cX5_ways 18 = .ok (.iadd, 1) := by decide +kernel
theorem dX5_ways_19 : decode cX5_ways 19 = .ok (.iload_n 3, 1) := by decide +kernel
theorem dX5_ways_20 : decode cX5_ways 20 = .ok (.invokevirtual 130, 3) := by decide +kernel
theorem dX5_ways_23 : decode cX5_ways 23 = .ok (.imul, 1) := by decide +kernel
theorem dX5_ways_24 : decode cX5_ways 24 = .ok (.bipush 10, 2) := by decide +kernel
theorem dX5_ways_26 : decode cX5_ways 26 = .ok (.aload_n 0, 1) := by decide +kernel
theorem dX5_ways_27 : decode cX5_ways 27 = .ok (.iload 6, 2) := by decide +kernel
theorem dX5_ways_29 : decode cX5_ways 29 = .ok (.iconst 2, 1) := by decide +kernel
theorem dX5_ways_30 : decode cX5_ways 30 = .ok (.iadd, 1) := by decide +kernel
theorem dX5_ways_31 : decode cX5_ways 31 = .ok (.iload 4, 2) := by decide +kernel
theorem dX5_ways_33 : decode cX5_ways 33 = .ok (.invokevirtual 130, 3) := by decide +kernel
theorem dX5_ways_36 : decode cX5_ways 36 = .ok (.imul, 1) := by decide +kernel
theorem dX5_ways_37 : decode cX5_ways 37 = .ok (.iadd, 1) := by decide +kernel
theorem dX5_ways_38 : decode cX5_ways 38 = .ok (.aload_n 0, 1) := by decide +kernel
theorem dX5_ways_39 : decode cX5_ways 39 = .ok (.iload 6, 2) := by decide +kernel
theorem dX5_ways_41 : decode cX5_ways 41 = .ok (.iconst 3, 1) := by decide +kernel
theorem dX5_ways_42 : decode cX5_ways 42 = .ok (.iadd, 1) := by decide +kernel
theorem dX5_ways_43 : decode cX5_ways 43 = .ok (.iload 5, 2) := by decide +kernel
theorem dX5_ways_45 : decode cX5_ways 45 = .ok (.invokevirtual 130, 3) := by decide +kernel
theorem dX5_ways_48 : decode cX5_ways 48 = .ok (.iadd, 1) := by decide +kernel
theorem dX5_ways_49 : decode cX5_ways 49 = .ok (.ireturn, 1) := by decide +kernel
set_option maxRecDepth 20000 in
theorem ggX5_way_X5_isArm : GoodIn wsX5_way wsX5_isArm := goodIn_r _ [5, 6, 7, 4, 8] (by decide +kernel) (by decide +kernel)
set_option maxRecDepth 20000 in
theorem gX5_way_X5_isArm : GoodIn wsX5_way (va_wsS RX5 120 yX5_isArm wsX5_isArm) := goodIn_app (goodIn_of _ (by decide +kernel)) ggX5_way_X5_isArm
set_option maxRecDepth 20000 in
theorem ggX5_way_X5_isState : GoodIn wsX5_way wsX5_isState := goodIn_r _ [11, 6, 7, 4, 8] (by decide +kernel) (by decide +kernel)
set_option maxRecDepth 20000 in
theorem gX5_way_X5_isState : GoodIn wsX5_way (va_wsS RX5 124 yX5_isState wsX5_isState) := goodIn_app (goodIn_of _ (by decide +kernel)) ggX5_way_X5_isState
set_option maxRecDepth 20000 in
theorem ggX5_way_X5_fails : GoodIn wsX5_way wsX5_fails := goodIn_r _ [15, 1, 31, 32, 33, 34, 35, 36, 37, 38, 39, 40, 41, 42, 43] (by decide +kernel) (by decide +kernel)
set_option maxRecDepth 20000 in
theorem gX5_way_X5_fails : GoodIn wsX5_way (wsV RX5 53 RX5 yX5_fails wsX5_fails) := goodIn_app (goodIn_of _ (by decide +kernel)) ggX5_way_X5_fails
set_option maxRecDepth 20000 in
theorem ggX5_way_X5_in : GoodIn wsX5_way wsX5_in := goodIn_r _ [8] (by decide +kernel) (by decide +kernel)
set_option maxRecDepth 20000 in
theorem gX5_way_X5_in : GoodIn wsX5_way (va_wsS RX5 46 yX5_in wsX5_in) := goodIn_app (goodIn_of _ (by decide +kernel)) ggX5_way_X5_in
set_option maxRecDepth 20000 in
theorem ggX5_way_X5_saves : GoodIn wsX5_way wsX5_saves := goodIn_r _ [19, 20, 21, 22, 31, 32, 33, 34, 35, 36, 37, 38, 39, 40, 41, 42, 43] (by decide +kernel) (by decide +kernel)
set_option maxRecDepth 20000 in
theorem gX5_way_X5_saves : GoodIn wsX5_way (wsV RX5 127 RX5 yX5_saves wsX5_saves) := goodIn_app (goodIn_of _ (by decide +kernel)) ggX5_way_X5_saves
set_option maxRecDepth 20000 in
theorem ggX5_way_X5_ways : GoodIn wsX5_way wsX5_ways := goodIn_r _ [26, 27, 28, 29, 4, 30, 22, 31, 32, 33, 34, 35, 36, 37, 38, 39, 40, 41, 42, 43] (by decide +kernel) (by decide +kernel)
set_option maxRecDepth 20000 in
theorem gX5_way_X5_ways : GoodIn wsX5_way (wsV RX5 134 RX5 yX5_ways wsX5_ways) := goodIn_app (goodIn_of _ (by decide +kernel)) ggX5_way_X5_ways
theorem dX5_way_0 : decode cX5_way 0 = .ok (.aload_n 0, 1) := by decide +kernel
theorem dX5_way_1 : decode cX5_way 1 = .ok (.iconst 0, 1) := by decide +kernel
theorem dX5_way_2 : decode cX5_way 2 = .ok (.putfield 42, 3) := by decide +kernel
theorem dX5_way_5 : decode cX5_way 5 = .ok (.iload_n 1, 1) := by decide +kernel
theorem dX5_way_6 : decode cX5_way 6 = .ok (.invokestatic 120, 3) := by decide +kernel
theorem dX5_way_9 : decode cX5_way 9 = .ok (.ifCond .eq 25, 3) := by decide +kernel
theorem dX5_way_12 : decode cX5_way 12 = .ok (.iload_n 2, 1) := by decide +kernel
theorem dX5_way_13 : decode cX5_way 13 = .ok (.invokestatic 124, 3) := by decide +kernel
theorem dX5_way_16 : decode cX5_way 16 = .ok (.ifCond .eq 18, 3) := by decide +kernel
theorem dX5_way_19 : decode cX5_way 19 = .ok (.iload_n 3, 1) := by decide +kernel
theorem dX5_way_20 : decode cX5_way 20 = .ok (.invokestatic 124, 3) := by decide +kernel
theorem dX5_way_23 : decode cX5_way 23 = .ok (.ifCond .eq 11, 3) := by decide +kernel
theorem dX5_way_26 : decode cX5_way 26 = .ok (.iload 4, 2) := by decide +kernel
theorem dX5_way_28 : decode cX5_way 28 = .ok (.invokestatic 124, 3) := by decide +kernel
theorem dX5_way_31 : decode cX5_way 31 = .ok (.ifCond .ne 9, 3) := by decide +kernel
theorem dX5_way_34 : decode cX5_way 34 = .ok (.aload_n 0, 1) := by decide +kernel
theorem dX5_way_35 : decode cX5_way 35 = .ok (.iconst 1, 1) := by decide +kernel
theorem dX5_way_36 : decode cX5_way 36 = .ok (.invokevirtual 53, 3) := by decide +kernel
theorem dX5_way_39 : decode cX5_way 39 = .ok (.ireturn, 1) := by decide +kernel
theorem dX5_way_40 : decode cX5_way 40 = .ok (.iload 5, 2) := by decide +kernel
theorem dX5_way_42 : decode cX5_way 42 = .ok (.i2l, 1) := by decide +kernel
theorem dX5_way_43 : decode cX5_way 43 = .ok (.iconst 0, 1) := by decide +kernel
theorem dX5_way_44 : decode cX5_way 44 = .ok (.bipush 8, 2) := by decide +kernel
theorem dX5_way_46 : decode cX5_way 46 = .ok (.invokestatic 46, 3) := by decide +kernel
theorem dX5_way_49 : decode cX5_way 49 = .ok (.ifCond .ne 9, 3) := by decide +kernel
theorem dX5_way_52 : decode cX5_way 52 = .ok (.aload_n 0, 1) := by decide +kernel
theorem dX5_way_53 : decode cX5_way 53 = .ok (.iconst 2, 1) := by decide +kernel
theorem dX5_way_54 : decode cX5_way 54 = .ok (.invokevirtual 53, 3) := by decide +kernel
theorem dX5_way_57 : decode cX5_way 57 = .ok (.ireturn, 1) := by decide +kernel
theorem dX5_way_58 : decode cX5_way 58 = .ok (.aload_n 0, 1) := by decide +kernel
theorem dX5_way_59 : decode cX5_way 59 = .ok (.invokevirtual 127, 3) := by decide +kernel
theorem dX5_way_62 : decode cX5_way 62 = .ok (.aload_n 0, 1) := by decide +kernel
theorem dX5_way_63 : decode cX5_way 63 = .ok (.iload_n 1, 1) := by decide +kernel
theorem dX5_way_64 : decode cX5_way 64 = .ok (.iload_n 2, 1) := by decide +kernel
theorem dX5_way_65 : decode cX5_way 65 = .ok (.iload_n 3, 1) := by decide +kernel
theorem dX5_way_66 : decode cX5_way 66 = .ok (.iload 4, 2) := by decide +kernel
theorem dX5_way_68 : decode cX5_way 68 = .ok (.iload 5, 2) := by decide +kernel
theorem dX5_way_70 : decode cX5_way 70 = .ok (.invokevirtual 134, 3) := by decide +kernel
theorem dX5_way_73 : decode cX5_way 73 = .ok (.ireturn, 1) := by decide +kernel
set_option maxRecDepth 20000 in
theorem ggX5_put_X5_isArm : GoodIn wsX5_put wsX5_isArm := goodIn_r _ [5, 6, 7, 4, 8] (by decide +kernel) (by decide +kernel)
set_option maxRecDepth 20000 in
theorem gX5_put_X5_isArm : GoodIn wsX5_put (va_wsS RX5 120 yX5_isArm wsX5_isArm) := goodIn_app (goodIn_of _ (by decide +kernel)) ggX5_put_X5_isArm
set_option maxRecDepth 20000 in
theorem ggX5_put_X5_isState : GoodIn wsX5_put wsX5_isState := goodIn_r _ [11, 6, 7, 4, 8] (by decide +kernel) (by decide +kernel)
set_option maxRecDepth 20000 in
theorem gX5_put_X5_isState : GoodIn wsX5_put (va_wsS RX5 124 yX5_isState wsX5_isState) := goodIn_app (goodIn_of _ (by decide +kernel)) ggX5_put_X5_isState
set_option maxRecDepth 20000 in
theorem ggX5_put_X5_fails : GoodIn wsX5_put wsX5_fails := goodIn_r _ [15, 1, 27, 28, 29, 30, 31, 32, 33, 34, 35, 36, 37, 38, 39] (by decide +kernel) (by decide +kernel)
set_option maxRecDepth 20000 in
theorem gX5_put_X5_fails : GoodIn wsX5_put (wsV RX5 53 RX5 yX5_fails wsX5_fails) := goodIn_app (goodIn_of _ (by decide +kernel)) ggX5_put_X5_fails
set_option maxRecDepth 20000 in
theorem ggX5_put_X5_saves : GoodIn wsX5_put wsX5_saves := goodIn_r _ [19, 20, 21, 22, 27, 28, 29, 30, 31, 32, 33, 34, 35, 36, 37, 38, 39] (by decide +kernel) (by decide +kernel)
set_option maxRecDepth 20000 in
theorem gX5_put_X5_saves : GoodIn wsX5_put (wsV RX5 127 RX5 yX5_saves wsX5_saves) := goodIn_app (goodIn_of _ (by decide +kernel)) ggX5_put_X5_saves
set_option maxRecDepth 20000 in
theorem ggX5_put_X5_changes : GoodIn wsX5_put wsX5_changes := goodIn_r _ [26, 22, 27, 28, 29, 30, 31, 32, 33, 34, 35, 36, 37, 38, 39] (by decide +kernel) (by decide +kernel)
set_option maxRecDepth 20000 in
theorem gX5_put_X5_changes : GoodIn wsX5_put (wsV RX5 130 RX5 yX5_changes wsX5_changes) := goodIn_app (goodIn_of _ (by decide +kernel)) ggX5_put_X5_changes
theorem dX5_put_0 : decode cX5_put 0 = .ok (.aload_n 0, 1) := by decide +kernel
theorem dX5_put_1 : decode cX5_put 1 = .ok (.iconst 0, 1) := by decide +kernel
theorem dX5_put_2 : decode cX5_put 2 = .ok (.putfield 42, 3) := by decide +kernel
theorem dX5_put_5 : decode cX5_put 5 = .ok (.iload_n 1, 1) := by decide +kernel
theorem dX5_put_6 : decode cX5_put 6 = .ok (.invokestatic 120, 3) := by decide +kernel
theorem dX5_put_9 : decode cX5_put 9 = .ok (.ifCond .eq 10, 3) := by decide +kernel
theorem dX5_put_12 : decode cX5_put 12 = .ok (.iload_n 2, 1) := by decide +kernel
theorem dX5_put_13 : decode cX5_put 13 = .ok (.invokestatic 124, 3) := by decide +kernel
theorem dX5_put_16 : decode cX5_put 16 = .ok (.ifCond .ne 9, 3) := by decide +kernel
theorem dX5_put_19 : decode cX5_put 19 = .ok (.aload_n 0, 1) := by decide +kernel
theorem dX5_put_20 : decode cX5_put 20 = .ok (.iconst 1, 1) := by decide +kernel
theorem dX5_put_21 : decode cX5_put 21 = .ok (.invokevirtual 53, 3) := by decide +kernel
theorem dX5_put_24 : decode cX5_put 24 = .ok (.ireturn, 1) := by decide +kernel
theorem dX5_put_25 : decode cX5_put 25 = .ok (.aload_n 0, 1) := by decide +kernel
theorem dX5_put_26 : decode cX5_put 26 = .ok (.invokevirtual 127, 3) := by decide +kernel
theorem dX5_put_29 : decode cX5_put 29 = .ok (.aload_n 0, 1) := by decide +kernel
theorem dX5_put_30 : decode cX5_put 30 = .ok (.bipush 10, 2) := by decide +kernel
theorem dX5_put_32 : decode cX5_put 32 = .ok (.iconst 2, 1) := by decide +kernel
theorem dX5_put_33 : decode cX5_put 33 = .ok (.iload_n 1, 1) := by decide +kernel
theorem dX5_put_34 : decode cX5_put 34 = .ok (.imul, 1) := by decide +kernel
theorem dX5_put_35 : decode cX5_put 35 = .ok (.iadd, 1) := by decide +kernel
theorem dX5_put_36 : decode cX5_put 36 = .ok (.iload_n 2, 1) := by decide +kernel
theorem dX5_put_37 : decode cX5_put 37 = .ok (.invokevirtual 130, 3) := by decide +kernel
theorem dX5_put_40 : decode cX5_put 40 = .ok (.ireturn, 1) := by decide +kernel
set_option maxRecDepth 20000 in
theorem ggX5_isFor_X5_in : GoodIn wsX5_isFor wsX5_in := goodIn_r _ [4] (by decide +kernel) (by decide +kernel)
set_option maxRecDepth 20000 in
theorem gX5_isFor_X5_in : GoodIn wsX5_isFor (va_wsS RX5 46 yX5_in wsX5_in) := goodIn_app (goodIn_of _ (by decide +kernel)) ggX5_isFor_X5_in
theorem dX5_isFor_0 : decode cX5_isFor 0 = .ok (.iload_n 0, 1) := by decide +kernel
theorem dX5_isFor_1 : decode cX5_isFor 1 = .ok (.iconst 1, 1) := by decide +kernel
theorem dX5_isFor_2 : decode cX5_isFor 2 = .ok (.if_icmp .ne 14, 3) := by decide +kernel
theorem dX5_isFor_5 : decode cX5_isFor 5 = .ok (.iload_n 1, 1) := by decide +kernel
theorem dX5_isFor_6 : decode cX5_isFor 6 = .ok (.i2l, 1) := by decide +kernel
theorem dX5_isFor_7 : decode cX5_isFor 7 = .ok (.iconst 1, 1) := by decide +kernel
theorem dX5_isFor_8 : decode cX5_isFor 8 = .ok (.bipush 60, 2) := by decide +kernel
theorem dX5_isFor_10 : decode cX5_isFor 10 = .ok (.invokestatic 46, 3) := by decide +kernel
theorem dX5_isFor_13 : decode cX5_isFor 13 = .ok (.goto 20, 3) := by decide +kernel
theorem dX5_isFor_16 : decode cX5_isFor 16 = .ok (.iload_n 1, 1) := by decide +kernel
theorem dX5_isFor_17 : decode cX5_isFor 17 = .ok (.i2l, 1) := by decide +kernel
theorem dX5_isFor_18 : decode cX5_isFor 18 = .ok (.iconst 0, 1) := by decide +kernel
theorem dX5_isFor_19 : decode cX5_isFor 19 = .ok (.iload_n 0, 1) := by decide +kernel
theorem dX5_isFor_20 : decode cX5_isFor 20 = .ok (.iconst 3, 1) := by decide +kernel
theorem dX5_isFor_21 : decode cX5_isFor 21 = .ok (.if_icmp .ne 7, 3) := by decide +kernel
theorem dX5_isFor_24 : decode cX5_isFor 24 = .ok (.iconst 1, 1) := by decide +kernel
theorem dX5_isFor_25 : decode cX5_isFor 25 = .ok (.goto 5, 3) := by decide +kernel
theorem dX5_isFor_28 : decode cX5_isFor 28 = .ok (.bipush 99, 2) := by decide +kernel
theorem dX5_isFor_30 : decode cX5_isFor 30 = .ok (.invokestatic 46, 3) := by decide +kernel
theorem dX5_isFor_33 : decode cX5_isFor 33 = .ok (.ireturn, 1) := by decide +kernel
set_option maxRecDepth 20000 in
theorem ggX5_set_X5_in : GoodIn wsX5_set wsX5_in := goodIn_r _ [5] (by decide +kernel) (by decide +kernel)
set_option maxRecDepth 20000 in
theorem gX5_set_X5_in : GoodIn wsX5_set (va_wsS RX5 46 yX5_in wsX5_in) := goodIn_app (goodIn_of _ (by decide +kernel)) ggX5_set_X5_in
set_option maxRecDepth 20000 in
theorem ggX5_set_X5_fails : GoodIn wsX5_set wsX5_fails := goodIn_r _ [9, 1, 24, 25, 26, 27, 28, 29, 30, 31, 32, 33, 34, 35, 36] (by decide +kernel) (by decide +kernel)
set_option maxRecDepth 20000 in
theorem gX5_set_X5_fails : GoodIn wsX5_set (wsV RX5 53 RX5 yX5_fails wsX5_fails) := goodIn_app (goodIn_of _ (by decide +kernel)) ggX5_set_X5_fails
set_option maxRecDepth 20000 in
theorem ggX5_set_X5_isFor : GoodIn wsX5_set wsX5_isFor := goodIn_r _ [12, 2, 3, 4, 5] (by decide +kernel) (by decide +kernel)
set_option maxRecDepth 20000 in
theorem gX5_set_X5_isFor : GoodIn wsX5_set (va_wsS RX5 138 yX5_isFor wsX5_isFor) := goodIn_app (goodIn_of _ (by decide +kernel)) ggX5_set_X5_isFor
set_option maxRecDepth 20000 in
theorem ggX5_set_X5_saves : GoodIn wsX5_set wsX5_saves := goodIn_r _ [16, 17, 18, 19, 24, 25, 26, 27, 28, 29, 30, 31, 32, 33, 34, 35, 36] (by decide +kernel) (by decide +kernel)
set_option maxRecDepth 20000 in
theorem gX5_set_X5_saves : GoodIn wsX5_set (wsV RX5 127 RX5 yX5_saves wsX5_saves) := goodIn_app (goodIn_of _ (by decide +kernel)) ggX5_set_X5_saves
set_option maxRecDepth 20000 in
theorem ggX5_set_X5_changes : GoodIn wsX5_set wsX5_changes := goodIn_r _ [23, 19, 24, 25, 26, 27, 28, 29, 30, 31, 32, 33, 34, 35, 36] (by decide +kernel) (by decide +kernel)
set_option maxRecDepth 20000 in
theorem gX5_set_X5_changes : GoodIn wsX5_set (wsV RX5 130 RX5 yX5_changes wsX5_changes) := goodIn_app (goodIn_of _ (by decide +kernel)) ggX5_set_X5_changes
theorem dX5_set_0 : decode cX5_set 0 = .ok (.aload_n 0, 1) := by decide +kernel
theorem dX5_set_1 : decode cX5_set 1 = .ok (.iconst 0, 1) := by decide +kernel
theorem dX5_set_2 : decode cX5_set 2 = .ok (.putfield 42, 3) := by decide +kernel
theorem dX5_set_5 : decode cX5_set 5 = .ok (.iload_n 1, 1) := by decide +kernel
theorem dX5_set_6 : decode cX5_set 6 = .ok (.i2l, 1) := by decide +kernel
theorem dX5_set_7 : decode cX5_set 7 = .ok (.iconst 0, 1) := by decide +kernel
theorem dX5_set_8 : decode cX5_set 8 = .ok (.iconst 3, 1) := by decide +kernel
theorem dX5_set_9 : decode cX5_set 9 = .ok (.invokestatic 46, 3) := by decide +kernel
theorem dX5_set_12 : decode cX5_set 12 = .ok (.ifCond .ne 9, 3) := by decide +kernel
theorem dX5_set_15 : decode cX5_set 15 = .ok (.aload_n 0, 1) := by decide +kernel
theorem dX5_set_16 : decode cX5_set 16 = .ok (.iconst 1, 1) := by decide +kernel
theorem dX5_set_17 : decode cX5_set 17 = .ok (.invokevirtual 53, 3) := by decide +kernel
theorem dX5_set_20 : decode cX5_set 20 = .ok (.ireturn, 1) := by decide +kernel
theorem dX5_set_21 : decode cX5_set 21 = .ok (.iload_n 1, 1) := by decide +kernel
theorem dX5_set_22 : decode cX5_set 22 = .ok (.iload_n 2, 1) := by decide +kernel
theorem dX5_set_23 : decode cX5_set 23 = .ok (.invokestatic 138, 3) := by decide +kernel
theorem dX5_set_26 : decode cX5_set 26 = .ok (.ifCond .ne 9, 3) := by decide +kernel
theorem dX5_set_29 : decode cX5_set 29 = .ok (.aload_n 0, 1) := by decide +kernel
theorem dX5_set_30 : decode cX5_set 30 = .ok (.iconst 2, 1) := by decide +kernel
theorem dX5_set_31 : decode cX5_set 31 = .ok (.invokevirtual 53, 3) := by decide +kernel
theorem dX5_set_34 : decode cX5_set 34 = .ok (.ireturn, 1) := by decide +kernel
theorem dX5_set_35 : decode cX5_set 35 = .ok (.aload_n 0, 1) := by decide +kernel
theorem dX5_set_36 : decode cX5_set 36 = .ok (.invokevirtual 127, 3) := by decide +kernel
theorem dX5_set_39 : decode cX5_set 39 = .ok (.aload_n 0, 1) := by decide +kernel
theorem dX5_set_40 : decode cX5_set 40 = .ok (.iload_n 1, 1) := by decide +kernel
theorem dX5_set_41 : decode cX5_set 41 = .ok (.iload_n 2, 1) := by decide +kernel
theorem dX5_set_42 : decode cX5_set 42 = .ok (.invokevirtual 130, 3) := by decide +kernel
theorem dX5_set_45 : decode cX5_set 45 = .ok (.ireturn, 1) := by decide +kernel
set_option maxRecDepth 20000 in
theorem ggX5_pull_X5_isArm : GoodIn wsX5_pull wsX5_isArm := goodIn_r _ [7, 8, 9, 6, 10] (by decide +kernel) (by decide +kernel)
set_option maxRecDepth 20000 in
theorem gX5_pull_X5_isArm : GoodIn wsX5_pull (va_wsS RX5 120 yX5_isArm wsX5_isArm) := goodIn_app (goodIn_of _ (by decide +kernel)) ggX5_pull_X5_isArm
set_option maxRecDepth 20000 in
theorem ggX5_pull_X5_fails : GoodIn wsX5_pull wsX5_fails := goodIn_r _ [14, 1, 48, 49, 50, 51, 52, 53, 54, 55, 56, 57, 58, 59, 60] (by decide +kernel) (by decide +kernel)
set_option maxRecDepth 20000 in
theorem gX5_pull_X5_fails : GoodIn wsX5_pull (wsV RX5 53 RX5 yX5_fails wsX5_fails) := goodIn_app (goodIn_of _ (by decide +kernel)) ggX5_pull_X5_fails
set_option maxRecDepth 20000 in
theorem ggX5_pull_X5_saves : GoodIn wsX5_pull wsX5_saves := goodIn_r _ [18, 19, 20, 2, 48, 49, 50, 51, 52, 53, 54, 55, 56, 57, 58, 59, 60] (by decide +kernel) (by decide +kernel)
set_option maxRecDepth 20000 in
theorem gX5_pull_X5_saves : GoodIn wsX5_pull (wsV RX5 127 RX5 yX5_saves wsX5_saves) := goodIn_app (goodIn_of _ (by decide +kernel)) ggX5_pull_X5_saves
set_option maxRecDepth 20000 in
theorem ggX5_pull_X5_pulls : GoodIn wsX5_pull wsX5_pulls := goodIn_r _ [23, 24, 25, 26, 27, 28, 6, 29, 30, 31, 32, 33, 34, 35, 36, 37, 38, 39, 40, 41, 42, 43, 44, 45, 46, 47] (by decide +kernel) (by decide +kernel)
set_option maxRecDepth 20000 in
theorem gX5_pull_X5_pulls : GoodIn wsX5_pull (va_wsS RX5 117 yX5_pulls wsX5_pulls) := goodIn_app (goodIn_of _ (by decide +kernel)) ggX5_pull_X5_pulls
set_option maxRecDepth 20000 in
theorem ggX5_pull_X5_stands : GoodIn wsX5_pull wsX5_stands := goodIn_r _ [33] (by decide +kernel) (by decide +kernel)
set_option maxRecDepth 20000 in
theorem gX5_pull_X5_stands : GoodIn wsX5_pull (va_wsS RX5 82 yX5_stands wsX5_stands) := goodIn_app (goodIn_of _ (by decide +kernel)) ggX5_pull_X5_stands
theorem dX5_pull_0 : decode cX5_pull 0 = .ok (.aload_n 0, 1) := by decide +kernel
theorem dX5_pull_1 : decode cX5_pull 1 = .ok (.iconst 0, 1) := by decide +kernel
theorem dX5_pull_2 : decode cX5_pull 2 = .ok (.putfield 42, 3) := by decide +kernel
theorem dX5_pull_5 : decode cX5_pull 5 = .ok (.iload_n 1, 1) := by decide +kernel
theorem dX5_pull_6 : decode cX5_pull 6 = .ok (.invokestatic 120, 3) := by decide +kernel
theorem dX5_pull_9 : decode cX5_pull 9 = .ok (.ifCond .ne 9, 3) := by decide +kernel
theorem dX5_pull_12 : decode cX5_pull 12 = .ok (.aload_n 0, 1) := by decide +kernel
theorem dX5_pull_13 : decode cX5_pull 13 = .ok (.iconst 1, 1) := by decide +kernel
theorem dX5_pull_14 : decode cX5_pull 14 = .ok (.invokevirtual 53, 3) := by decide +kernel
theorem dX5_pull_17 : decode cX5_pull 17 = .ok (.ireturn, 1) := by decide +kernel
theorem dX5_pull_18 : decode cX5_pull 18 = .ok (.aload_n 0, 1) := by decide +kernel
theorem dX5_pull_19 : decode cX5_pull 19 = .ok (.getfield 7, 3) := by decide +kernel
theorem dX5_pull_22 : decode cX5_pull 22 = .ok (.iconst 4, 1) := by decide +kernel
theorem dX5_pull_23 : decode cX5_pull 23 = .ok (.laload, 1) := by decide +kernel
theorem dX5_pull_24 : decode cX5_pull 24 = .ok (.ldc2_w 142, 3) := by decide +kernel
theorem dX5_pull_27 : decode cX5_pull 27 = .ok (.lcmp, 1) := by decide +kernel
theorem dX5_pull_28 : decode cX5_pull 28 = .ok (.ifCond .ne 9, 3) := by decide +kernel
theorem dX5_pull_31 : decode cX5_pull 31 = .ok (.aload_n 0, 1) := by decide +kernel
theorem dX5_pull_32 : decode cX5_pull 32 = .ok (.iconst 2, 1) := by decide +kernel
theorem dX5_pull_33 : decode cX5_pull 33 = .ok (.invokevirtual 53, 3) := by decide +kernel
theorem dX5_pull_36 : decode cX5_pull 36 = .ok (.ireturn, 1) := by decide +kernel
theorem dX5_pull_37 : decode cX5_pull 37 = .ok (.aload_n 0, 1) := by decide +kernel
theorem dX5_pull_38 : decode cX5_pull 38 = .ok (.invokevirtual 127, 3) := by decide +kernel
theorem dX5_pull_41 : decode cX5_pull 41 = .ok (.aload_n 0, 1) := by decide +kernel
theorem dX5_pull_42 : decode cX5_pull 42 = .ok (.getfield 7, 3) := by decide +kernel
theorem dX5_pull_45 : decode cX5_pull 45 = .ok (.iload_n 1, 1) := by decide +kernel
theorem dX5_pull_46 : decode cX5_pull 46 = .ok (.invokestatic 117, 3) := by decide +kernel
theorem dX5_pull_49 : decode cX5_pull 49 = .ok (.aload_n 0, 1) := by decide +kernel
theorem dX5_pull_50 : decode cX5_pull 50 = .ok (.getfield 7, 3) := by decide +kernel
theorem dX5_pull_53 : decode cX5_pull 53 = .ok (.iload_n 1, 1) := by decide +kernel
theorem dX5_pull_54 : decode cX5_pull 54 = .ok (.invokestatic 82, 3) := by decide +kernel
theorem dX5_pull_57 : decode cX5_pull 57 = .ok (.ireturn, 1) := by decide +kernel
set_option maxRecDepth 20000 in
theorem ggX5_isPlay_X5_in : GoodIn wsX5_isPlay wsX5_in := goodIn_r _ [4] (by decide +kernel) (by decide +kernel)
set_option maxRecDepth 20000 in
theorem gX5_isPlay_X5_in : GoodIn wsX5_isPlay (va_wsS RX5 46 yX5_in wsX5_in) := goodIn_app (goodIn_of _ (by decide +kernel)) ggX5_isPlay_X5_in
theorem dX5_isPlay_0 : decode cX5_isPlay 0 = .ok (.iload_n 0, 1) := by decide +kernel
theorem dX5_isPlay_1 : decode cX5_isPlay 1 = .ok (.i2l, 1) := by decide +kernel
theorem dX5_isPlay_2 : decode cX5_isPlay 2 = .ok (.iconst 0, 1) := by decide +kernel
theorem dX5_isPlay_3 : decode cX5_isPlay 3 = .ok (.iconst 2, 1) := by decide +kernel
theorem dX5_isPlay_4 : decode cX5_isPlay 4 = .ok (.invokestatic 46, 3) := by decide +kernel
theorem dX5_isPlay_7 : decode cX5_isPlay 7 = .ok (.ifCond .eq 18, 3) := by decide +kernel
theorem dX5_isPlay_10 : decode cX5_isPlay 10 = .ok (.iload_n 1, 1) := by decide +kernel
theorem dX5_isPlay_11 : decode cX5_isPlay 11 = .ok (.i2l, 1) := by decide +kernel
theorem dX5_isPlay_12 : decode cX5_isPlay 12 = .ok (.iconst 1, 1) := by decide +kernel
theorem dX5_isPlay_13 : decode cX5_isPlay 13 = .ok (.bipush 99, 2) := by decide +kernel
theorem dX5_isPlay_15 : decode cX5_isPlay 15 = .ok (.invokestatic 46, 3) := by decide +kernel
theorem dX5_isPlay_18 : decode cX5_isPlay 18 = .ok (.ifCond .eq 7, 3) := by decide +kernel
theorem dX5_isPlay_21 : decode cX5_isPlay 21 = .ok (.iconst 1, 1) := by decide +kernel
theorem dX5_isPlay_22 : decode cX5_isPlay 22 = .ok (.goto 4, 3) := by decide +kernel
theorem dX5_isPlay_25 : decode cX5_isPlay 25 = .ok (.iconst 0, 1) := by decide +kernel
theorem dX5_isPlay_26 : decode cX5_isPlay 26 = .ok (.ireturn, 1) := by decide +kernel
set_option maxRecDepth 20000 in
theorem ggX5_play_X5_isPlay : GoodIn wsX5_play wsX5_isPlay := goodIn_r _ [7, 8, 9, 6, 10] (by decide +kernel) (by decide +kernel)
set_option maxRecDepth 20000 in
theorem gX5_play_X5_isPlay : GoodIn wsX5_play (va_wsS RX5 144 yX5_isPlay wsX5_isPlay) := goodIn_app (goodIn_of _ (by decide +kernel)) ggX5_play_X5_isPlay
set_option maxRecDepth 20000 in
theorem ggX5_play_X5_fails : GoodIn wsX5_play wsX5_fails := goodIn_r _ [14, 1, 84, 85, 86, 87, 88, 89, 90, 91, 92, 93, 94, 95, 96] (by decide +kernel) (by decide +kernel)
set_option maxRecDepth 20000 in
theorem gX5_play_X5_fails : GoodIn wsX5_play (wsV RX5 53 RX5 yX5_fails wsX5_fails) := goodIn_app (goodIn_of _ (by decide +kernel)) ggX5_play_X5_fails
set_option maxRecDepth 20000 in
theorem ggX5_play_X5_saves : GoodIn wsX5_play wsX5_saves := goodIn_r _ [18, 19, 20, 2, 84, 85, 86, 87, 88, 89, 90, 91, 92, 93, 94, 95, 96] (by decide +kernel) (by decide +kernel)
set_option maxRecDepth 20000 in
theorem gX5_play_X5_saves : GoodIn wsX5_play (wsV RX5 127 RX5 yX5_saves wsX5_saves) := goodIn_app (goodIn_of _ (by decide +kernel)) ggX5_play_X5_saves
set_option maxRecDepth 20000 in
theorem ggX5_play_X5_plays : GoodIn wsX5_play wsX5_plays := goodIn_r _ [24, 25, 26, 27, 6, 28, 29, 30, 31, 32, 33, 34, 35, 36, 37, 38, 39, 40, 41, 42, 43, 44, 45, 46, 47, 48, 49, 50, 51, 52, 53, 54, 55, 56, 57, 58, 59, 60, 61, 62, 63, 64, 65, 66, 67, 68, 69, 70, 71, 72, 73, 74, 75, 76, 77, 78, 79, 80, 81, 82, 83, 84, 85, 86, 87, 88, 89, 90, 91, 92, 93, 94, 95, 96] (by decide +kernel) (by decide +kernel)
set_option maxRecDepth 20000 in
theorem gX5_play_X5_plays : GoodIn wsX5_play (wsV RX5 147 RX5 yX5_plays wsX5_plays) := goodIn_app (goodIn_of _ (by decide +kernel)) ggX5_play_X5_plays
theorem dX5_play_0 : decode cX5_play 0 = .ok (.aload_n 0, 1) := by decide +kernel
theorem dX5_play_1 : decode cX5_play 1 = .ok (.iconst 0, 1) := by decide +kernel
theorem dX5_play_2 : decode cX5_play 2 = .ok (.putfield 42, 3) := by decide +kernel
theorem dX5_play_5 : decode cX5_play 5 = .ok (.iload_n 1, 1) := by decide +kernel
theorem dX5_play_6 : decode cX5_play 6 = .ok (.iload_n 2, 1) := by decide +kernel
theorem dX5_play_7 : decode cX5_play 7 = .ok (.invokestatic 144, 3) := by decide +kernel
theorem dX5_play_10 : decode cX5_play 10 = .ok (.ifCond .ne 9, 3) := by decide +kernel
theorem dX5_play_13 : decode cX5_play 13 = .ok (.aload_n 0, 1) := by decide +kernel
theorem dX5_play_14 : decode cX5_play 14 = .ok (.iconst 1, 1) := by decide +kernel
theorem dX5_play_15 : decode cX5_play 15 = .ok (.invokevirtual 53, 3) := by decide +kernel
theorem dX5_play_18 : decode cX5_play 18 = .ok (.ireturn, 1) := by decide +kernel
theorem dX5_play_19 : decode cX5_play 19 = .ok (.aload_n 0, 1) := by decide +kernel
theorem dX5_play_20 : decode cX5_play 20 = .ok (.getfield 7, 3) := by decide +kernel
theorem dX5_play_23 : decode cX5_play 23 = .ok (.iconst 4, 1) := by decide +kernel
theorem dX5_play_24 : decode cX5_play 24 = .ok (.laload, 1) := by decide +kernel
theorem dX5_play_25 : decode cX5_play 25 = .ok (.iload_n 2, 1) := by decide +kernel
theorem dX5_play_26 : decode cX5_play 26 = .ok (.i2l, 1) := by decide +kernel
theorem dX5_play_27 : decode cX5_play 27 = .ok (.ladd, 1) := by decide +kernel
theorem dX5_play_28 : decode cX5_play 28 = .ok (.ldc2_w 142, 3) := by decide +kernel
theorem dX5_play_31 : decode cX5_play 31 = .ok (.lcmp, 1) := by decide +kernel
theorem dX5_play_32 : decode cX5_play 32 = .ok (.ifCond .le 9, 3) := by decide +kernel
theorem dX5_play_35 : decode cX5_play 35 = .ok (.aload_n 0, 1) := by decide +kernel
theorem dX5_play_36 : decode cX5_play 36 = .ok (.iconst 2, 1) := by decide +kernel
theorem dX5_play_37 : decode cX5_play 37 = .ok (.invokevirtual 53, 3) := by decide +kernel
theorem dX5_play_40 : decode cX5_play 40 = .ok (.ireturn, 1) := by decide +kernel
theorem dX5_play_41 : decode cX5_play 41 = .ok (.aload_n 0, 1) := by decide +kernel
theorem dX5_play_42 : decode cX5_play 42 = .ok (.invokevirtual 127, 3) := by decide +kernel
theorem dX5_play_45 : decode cX5_play 45 = .ok (.aload_n 0, 1) := by decide +kernel
theorem dX5_play_46 : decode cX5_play 46 = .ok (.getfield 7, 3) := by decide +kernel
theorem dX5_play_49 : decode cX5_play 49 = .ok (.iconst 5, 1) := by decide +kernel
theorem dX5_play_50 : decode cX5_play 50 = .ok (.laload, 1) := by decide +kernel
theorem dX5_play_51 : decode cX5_play 51 = .ok (.lstore_n 3, 1) := by decide +kernel
theorem dX5_play_52 : decode cX5_play 52 = .ok (.aload_n 0, 1) := by decide +kernel
theorem dX5_play_53 : decode cX5_play 53 = .ok (.aload_n 0, 1) := by decide +kernel
theorem dX5_play_54 : decode cX5_play 54 = .ok (.getfield 7, 3) := by decide +kernel
theorem dX5_play_57 : decode cX5_play 57 = .ok (.iload_n 1, 1) := by decide +kernel
theorem dX5_play_58 : decode cX5_play 58 = .ok (.iload_n 2, 1) := by decide +kernel
theorem dX5_play_59 : decode cX5_play 59 = .ok (.invokevirtual 147, 3) := by decide +kernel
theorem dX5_play_62 : decode cX5_play 62 = .ok (.aload_n 0, 1) := by decide +kernel
theorem dX5_play_63 : decode cX5_play 63 = .ok (.getfield 7, 3) := by decide +kernel
theorem dX5_play_66 : decode cX5_play 66 = .ok (.iconst 5, 1) := by decide +kernel
theorem dX5_play_67 : decode cX5_play 67 = .ok (.laload, 1) := by decide +kernel
theorem dX5_play_68 : decode cX5_play 68 = .ok (.lload_n 3, 1) := by decide +kernel
theorem dX5_play_69 : decode cX5_play 69 = .ok (.lsub, 1) := by decide +kernel
theorem dX5_play_70 : decode cX5_play 70 = .ok (.l2i, 1) := by decide +kernel
theorem dX5_play_71 : decode cX5_play 71 = .ok (.ireturn, 1) := by decide +kernel
set_option maxRecDepth 20000 in
theorem ggX5_begin_X5_saves : GoodIn wsX5_begin wsX5_saves := goodIn_r _ [9, 10, 11, 2, 12, 13, 14, 15, 16, 17, 18, 19, 20, 21, 22, 23, 24] (by decide +kernel) (by decide +kernel)
set_option maxRecDepth 20000 in
theorem gX5_begin_X5_saves : GoodIn wsX5_begin (wsV RX5 127 RX5 yX5_saves wsX5_saves) := goodIn_app (goodIn_of _ (by decide +kernel)) ggX5_begin_X5_saves
theorem dX5_begin_0 : decode cX5_begin 0 = .ok (.aload_n 0, 1) := by decide +kernel
theorem dX5_begin_1 : decode cX5_begin 1 = .ok (.iconst 0, 1) := by decide +kernel
theorem dX5_begin_2 : decode cX5_begin 2 = .ok (.putfield 42, 3) := by decide +kernel
theorem dX5_begin_5 : decode cX5_begin 5 = .ok (.aload_n 0, 1) := by decide +kernel
theorem dX5_begin_6 : decode cX5_begin 6 = .ok (.invokevirtual 127, 3) := by decide +kernel
theorem dX5_begin_9 : decode cX5_begin 9 = .ok (.aload_n 0, 1) := by decide +kernel
theorem dX5_begin_10 : decode cX5_begin 10 = .ok (.getfield 7, 3) := by decide +kernel
theorem dX5_begin_13 : decode cX5_begin 13 = .ok (.iconst 4, 1) := by decide +kernel
theorem dX5_begin_14 : decode cX5_begin 14 = .ok (.laload, 1) := by decide +kernel
theorem dX5_begin_15 : decode cX5_begin 15 = .ok (.l2i, 1) := by decide +kernel
theorem dX5_begin_16 : decode cX5_begin 16 = .ok (.istore_n 3, 1) := by decide +kernel
theorem dX5_begin_17 : decode cX5_begin 17 = .ok (.iconst 4, 1) := by decide +kernel
theorem dX5_begin_18 : decode cX5_begin 18 = .ok (.istore 4, 2) := by decide +kernel
theorem dX5_begin_20 : decode cX5_begin 20 = .ok (.iload 4, 2) := by decide +kernel
theorem dX5_begin_22 : decode cX5_begin 22 = .ok (.bipush 18, 2) := by decide +kernel
theorem dX5_begin_24 : decode cX5_begin 24 = .ok (.if_icmp .ge 17, 3) := by decide +kernel
theorem dX5_begin_27 : decode cX5_begin 27 = .ok (.aload_n 0, 1) := by decide +kernel
theorem dX5_begin_28 : decode cX5_begin 28 = .ok (.getfield 7, 3) := by decide +kernel
theorem dX5_begin_31 : decode cX5_begin 31 = .ok (.iload 4, 2) := by decide +kernel
theorem dX5_begin_33 : decode cX5_begin 33 = .ok (.lconst 0, 1) := by decide +kernel
theorem dX5_begin_34 : decode cX5_begin 34 = .ok (.lastore, 1) := by decide +kernel
theorem dX5_begin_35 : decode cX5_begin 35 = .ok (.iinc 4 1, 3) := by decide +kernel
theorem dX5_begin_38 : decode cX5_begin 38 = .ok (.goto (-18), 3) := by decide +kernel
theorem dX5_begin_41 : decode cX5_begin 41 = .ok (.aload_n 0, 1) := by decide +kernel
theorem dX5_begin_42 : decode cX5_begin 42 = .ok (.getfield 7, 3) := by decide +kernel
theorem dX5_begin_45 : decode cX5_begin 45 = .ok (.bipush 6, 2) := by decide +kernel
theorem dX5_begin_47 : decode cX5_begin 47 = .ok (.ldc2_w 36, 3) := by decide +kernel
theorem dX5_begin_50 : decode cX5_begin 50 = .ok (.lastore, 1) := by decide +kernel
theorem dX5_begin_51 : decode cX5_begin 51 = .ok (.aload_n 0, 1) := by decide +kernel
theorem dX5_begin_52 : decode cX5_begin 52 = .ok (.getfield 7, 3) := by decide +kernel
theorem dX5_begin_55 : decode cX5_begin 55 = .ok (.bipush 8, 2) := by decide +kernel
theorem dX5_begin_57 : decode cX5_begin 57 = .ok (.ldc2_w 38, 3) := by decide +kernel
theorem dX5_begin_60 : decode cX5_begin 60 = .ok (.lastore, 1) := by decide +kernel
theorem dX5_begin_61 : decode cX5_begin 61 = .ok (.aload_n 0, 1) := by decide +kernel
theorem dX5_begin_62 : decode cX5_begin 62 = .ok (.getfield 7, 3) := by decide +kernel
theorem dX5_begin_65 : decode cX5_begin 65 = .ok (.bipush 9, 2) := by decide +kernel
theorem dX5_begin_67 : decode cX5_begin 67 = .ok (.lload_n 1, 1) := by decide +kernel
theorem dX5_begin_68 : decode cX5_begin 68 = .ok (.lastore, 1) := by decide +kernel
theorem dX5_begin_69 : decode cX5_begin 69 = .ok (.iload_n 3, 1) := by decide +kernel
theorem dX5_begin_70 : decode cX5_begin 70 = .ok (.ireturn, 1) := by decide +kernel
set_option maxRecDepth 20000 in
theorem ggX5_append_X5_in : GoodIn wsX5_append wsX5_in := goodIn_r _ [7] (by decide +kernel) (by decide +kernel)
set_option maxRecDepth 20000 in
theorem gX5_append_X5_in : GoodIn wsX5_append (va_wsS RX5 46 yX5_in wsX5_in) := goodIn_app (goodIn_of _ (by decide +kernel)) ggX5_append_X5_in
set_option maxRecDepth 20000 in
theorem ggX5_append_X5_fails : GoodIn wsX5_append wsX5_fails := goodIn_r _ [11, 1, 12, 13, 14, 15, 16, 17, 18, 19, 20, 21, 22, 23, 24] (by decide +kernel) (by decide +kernel)
set_option maxRecDepth 20000 in
theorem gX5_append_X5_fails : GoodIn wsX5_append (wsV RX5 53 RX5 yX5_fails wsX5_fails) := goodIn_app (goodIn_of _ (by decide +kernel)) ggX5_append_X5_fails
theorem dX5_append_0 : decode cX5_append 0 = .ok (.aload_n 0, 1) := by decide +kernel
theorem dX5_append_1 : decode cX5_append 1 = .ok (.iconst 0, 1) := by decide +kernel
theorem dX5_append_2 : decode cX5_append 2 = .ok (.putfield 42, 3) := by decide +kernel
theorem dX5_append_5 : decode cX5_append 5 = .ok (.iload_n 1, 1) := by decide +kernel
theorem dX5_append_6 : decode cX5_append 6 = .ok (.i2l, 1) := by decide +kernel
theorem dX5_append_7 : decode cX5_append 7 = .ok (.bipush 33, 2) := by decide +kernel
theorem dX5_append_9 : decode cX5_append 9 = .ok (.bipush 126, 2) := by decide +kernel
theorem dX5_append_11 : decode cX5_append 11 = .ok (.invokestatic 46, 3) := by decide +kernel
theorem dX5_append_14 : decode cX5_append 14 = .ok (.ifCond .ne 9, 3) := by decide +kernel
theorem dX5_append_17 : decode cX5_append 17 = .ok (.aload_n 0, 1) := by decide +kernel
theorem dX5_append_18 : decode cX5_append 18 = .ok (.iconst 1, 1) := by decide +kernel
theorem dX5_append_19 : decode cX5_append 19 = .ok (.invokevirtual 53, 3) := by decide +kernel
theorem dX5_append_22 : decode cX5_append 22 = .ok (.ireturn, 1) := by decide +kernel
theorem dX5_append_23 : decode cX5_append 23 = .ok (.aload_n 0, 1) := by decide +kernel
theorem dX5_append_24 : decode cX5_append 24 = .ok (.getfield 150, 3) := by decide +kernel
theorem dX5_append_27 : decode cX5_append 27 = .ok (.bipush 60, 2) := by decide +kernel
theorem dX5_append_29 : decode cX5_append 29 = .ok (.if_icmp .ne 9, 3) := by decide +kernel
theorem dX5_append_32 : decode cX5_append 32 = .ok (.aload_n 0, 1) := by decide +kernel
theorem dX5_append_33 : decode cX5_append 33 = .ok (.iconst 2, 1) := by decide +kernel
theorem dX5_append_34 : decode cX5_append 34 = .ok (.invokevirtual 53, 3) := by decide +kernel
theorem dX5_append_37 : decode cX5_append 37 = .ok (.ireturn, 1) := by decide +kernel
theorem dX5_append_38 : decode cX5_append 38 = .ok (.aload_n 0, 1) := by decide +kernel
theorem dX5_append_39 : decode cX5_append 39 = .ok (.getfield 19, 3) := by decide +kernel
theorem dX5_append_42 : decode cX5_append 42 = .ok (.aload_n 0, 1) := by decide +kernel
theorem dX5_append_43 : decode cX5_append 43 = .ok (.getfield 150, 3) := by decide +kernel
theorem dX5_append_46 : decode cX5_append 46 = .ok (.iload_n 1, 1) := by decide +kernel
theorem dX5_append_47 : decode cX5_append 47 = .ok (.iastore, 1) := by decide +kernel
theorem dX5_append_48 : decode cX5_append 48 = .ok (.aload_n 0, 1) := by decide +kernel
theorem dX5_append_49 : decode cX5_append 49 = .ok (.dup, 1) := by decide +kernel
theorem dX5_append_50 : decode cX5_append 50 = .ok (.getfield 150, 3) := by decide +kernel
theorem dX5_append_53 : decode cX5_append 53 = .ok (.iconst 1, 1) := by decide +kernel
theorem dX5_append_54 : decode cX5_append 54 = .ok (.iadd, 1) := by decide +kernel
theorem dX5_append_55 : decode cX5_append 55 = .ok (.putfield 150, 3) := by decide +kernel
theorem dX5_append_58 : decode cX5_append 58 = .ok (.aload_n 0, 1) := by decide +kernel
theorem dX5_append_59 : decode cX5_append 59 = .ok (.getfield 150, 3) := by decide +kernel
theorem dX5_append_62 : decode cX5_append 62 = .ok (.ireturn, 1) := by decide +kernel
theorem dX5_clearBuffer_0 : decode cX5_clearBuffer 0 = .ok (.aload_n 0, 1) := by decide +kernel
theorem dX5_clearBuffer_1 : decode cX5_clearBuffer 1 = .ok (.iconst 0, 1) := by decide +kernel
theorem dX5_clearBuffer_2 : decode cX5_clearBuffer 2 = .ok (.putfield 42, 3) := by decide +kernel
theorem dX5_clearBuffer_5 : decode cX5_clearBuffer 5 = .ok (.aload_n 0, 1) := by decide +kernel
theorem dX5_clearBuffer_6 : decode cX5_clearBuffer 6 = .ok (.getfield 150, 3) := by decide +kernel
theorem dX5_clearBuffer_9 : decode cX5_clearBuffer 9 = .ok (.istore_n 1, 1) := by decide +kernel
theorem dX5_clearBuffer_10 : decode cX5_clearBuffer 10 = .ok (.aload_n 0, 1) := by decide +kernel
theorem dX5_clearBuffer_11 : decode cX5_clearBuffer 11 = .ok (.iconst 0, 1) := by decide +kernel
theorem dX5_clearBuffer_12 : decode cX5_clearBuffer 12 = .ok (.putfield 150, 3) := by decide +kernel
theorem dX5_clearBuffer_15 : decode cX5_clearBuffer 15 = .ok (.iload_n 1, 1) := by decide +kernel
theorem dX5_clearBuffer_16 : decode cX5_clearBuffer 16 = .ok (.ireturn, 1) := by decide +kernel
set_option maxRecDepth 20000 in
theorem ggX5_isAt_X5_in : GoodIn wsX5_isAt wsX5_in := goodIn_r _ [7] (by decide +kernel) (by decide +kernel)
set_option maxRecDepth 20000 in
theorem gX5_isAt_X5_in : GoodIn wsX5_isAt (va_wsS RX5 46 yX5_in wsX5_in) := goodIn_app (goodIn_of _ (by decide +kernel)) ggX5_isAt_X5_in
theorem dX5_isAt_0 : decode cX5_isAt 0 = .ok (.aload_n 0, 1) := by decide +kernel
theorem dX5_isAt_1 : decode cX5_isAt 1 = .ok (.getfield 153, 3) := by decide +kernel
theorem dX5_isAt_4 : decode cX5_isAt 4 = .ok (.aload_n 0, 1) := by decide +kernel
theorem dX5_isAt_5 : decode cX5_isAt 5 = .ok (.getfield 150, 3) := by decide +kernel
theorem dX5_isAt_8 : decode cX5_isAt 8 = .ok (.if_icmp .ge 25, 3) := by decide +kernel
theorem dX5_isAt_11 : decode cX5_isAt 11 = .ok (.aload_n 0, 1) := by decide +kernel
theorem dX5_isAt_12 : decode cX5_isAt 12 = .ok (.getfield 19, 3) := by decide +kernel
theorem dX5_isAt_15 : decode cX5_isAt 15 = .ok (.aload_n 0, 1) := by decide +kernel
theorem dX5_isAt_16 : decode cX5_isAt 16 = .ok (.getfield 153, 3) := by decide +kernel
theorem dX5_isAt_19 : decode cX5_isAt 19 = .ok (.iaload, 1) := by decide +kernel
theorem dX5_isAt_20 : decode cX5_isAt 20 = .ok (.i2l, 1) := by decide +kernel
theorem dX5_isAt_21 : decode cX5_isAt 21 = .ok (.iload_n 1, 1) := by decide +kernel
theorem dX5_isAt_22 : decode cX5_isAt 22 = .ok (.iload_n 2, 1) := by decide +kernel
theorem dX5_isAt_23 : decode cX5_isAt 23 = .ok (.invokestatic 46, 3) := by decide +kernel
theorem dX5_isAt_26 : decode cX5_isAt 26 = .ok (.ifCond .eq 7, 3) := by decide +kernel
theorem dX5_isAt_29 : decode cX5_isAt 29 = .ok (.iconst 1, 1) := by decide +kernel
theorem dX5_isAt_30 : decode cX5_isAt 30 = .ok (.goto 4, 3) := by decide +kernel
theorem dX5_isAt_33 : decode cX5_isAt 33 = .ok (.iconst 0, 1) := by decide +kernel
theorem dX5_isAt_34 : decode cX5_isAt 34 = .ok (.ireturn, 1) := by decide +kernel
theorem dX5_stops_0 : decode cX5_stops 0 = .ok (.aload_n 0, 1) := by decide +kernel
theorem dX5_stops_1 : decode cX5_stops 1 = .ok (.aload_n 0, 1) := by decide +kernel
theorem dX5_stops_2 : decode cX5_stops 2 = .ok (.getfield 153, 3) := by decide +kernel
theorem dX5_stops_5 : decode cX5_stops 5 = .ok (.aload_n 0, 1) := by decide +kernel
theorem dX5_stops_6 : decode cX5_stops 6 = .ok (.getfield 150, 3) := by decide +kernel
theorem dX5_stops_9 : decode cX5_stops 9 = .ok (.if_icmp .ge 7, 3) := by decide +kernel
theorem dX5_stops_12 : decode cX5_stops 12 = .ok (.iconst 1, 1) := by decide +kernel
theorem dX5_stops_13 : decode cX5_stops 13 = .ok (.goto 4, 3) := by decide +kernel
theorem dX5_stops_16 : decode cX5_stops 16 = .ok (.iconst 0, 1) := by decide +kernel
theorem dX5_stops_17 : decode cX5_stops 17 = .ok (.putfield 156, 3) := by decide +kernel
theorem dX5_stops_20 : decode cX5_stops 20 = .ok (.iconst 0, 1) := by decide +kernel
theorem dX5_stops_21 : decode cX5_stops 21 = .ok (.ireturn, 1) := by decide +kernel
set_option maxRecDepth 20000 in
theorem ggX5_isSign_X5_isAt : GoodIn wsX5_isSign wsX5_isAt := goodIn_r _ [9, 4, 10, 3, 11, 12, 8, 13, 19, 20, 21, 22, 23, 24, 25, 26, 27, 28, 29, 30, 31] (by decide +kernel) (by decide +kernel)
set_option maxRecDepth 20000 in
theorem gX5_isSign_X5_isAt : GoodIn wsX5_isSign (wsV RX5 160 RX5 yX5_isAt wsX5_isAt) := goodIn_app (goodIn_of _ (by decide +kernel)) ggX5_isSign_X5_isAt
set_option maxRecDepth 20000 in
theorem ggX5_isSign_X5_stops : GoodIn wsX5_isSign wsX5_stops := goodIn_r _ [17, 4, 10, 18, 19, 20, 21, 22, 23, 24, 25, 26, 27, 28, 29, 30, 31] (by decide +kernel) (by decide +kernel)
set_option maxRecDepth 20000 in
theorem gX5_isSign_X5_stops : GoodIn wsX5_isSign (wsV RX5 163 RX5 yX5_stops wsX5_stops) := goodIn_app (goodIn_of _ (by decide +kernel)) ggX5_isSign_X5_stops
theorem dX5_isSign_0 : decode cX5_isSign 0 = .ok (.aload_n 0, 1) := by decide +kernel
theorem dX5_isSign_1 : decode cX5_isSign 1 = .ok (.iload_n 2, 1) := by decide +kernel
theorem dX5_isSign_2 : decode cX5_isSign 2 = .ok (.iload_n 3, 1) := by decide +kernel
theorem dX5_isSign_3 : decode cX5_isSign 3 = .ok (.invokevirtual 160, 3) := by decide +kernel
theorem dX5_isSign_6 : decode cX5_isSign 6 = .ok (.ifCond .ne 8, 3) := by decide +kernel
theorem dX5_isSign_9 : decode cX5_isSign 9 = .ok (.aload_n 0, 1) := by decide +kernel
theorem dX5_isSign_10 : decode cX5_isSign 10 = .ok (.invokevirtual 163, 3) := by decide +kernel
theorem dX5_isSign_13 : decode cX5_isSign 13 = .ok (.ireturn, 1) := by decide +kernel
theorem dX5_isSign_14 : decode cX5_isSign 14 = .ok (.aload_n 0, 1) := by decide +kernel
theorem dX5_isSign_15 : decode cX5_isSign 15 = .ok (.getfield 23, 3) := by decide +kernel
theorem dX5_isSign_18 : decode cX5_isSign 18 = .ok (.bipush 6, 2) := by decide +kernel
theorem dX5_isSign_20 : decode cX5_isSign 20 = .ok (.aload_n 0, 1) := by decide +kernel
theorem dX5_isSign_21 : decode cX5_isSign 21 = .ok (.getfield 167, 3) := by decide +kernel
theorem dX5_isSign_24 : decode cX5_isSign 24 = .ok (.imul, 1) := by decide +kernel
theorem dX5_isSign_25 : decode cX5_isSign 25 = .ok (.iload_n 1, 1) := by decide +kernel
theorem dX5_isSign_26 : decode cX5_isSign 26 = .ok (.iadd, 1) := by decide +kernel
theorem dX5_isSign_27 : decode cX5_isSign 27 = .ok (.aload_n 0, 1) := by decide +kernel
theorem dX5_isSign_28 : decode cX5_isSign 28 = .ok (.getfield 19, 3) := by decide +kernel
theorem dX5_isSign_31 : decode cX5_isSign 31 = .ok (.aload_n 0, 1) := by decide +kernel
theorem dX5_isSign_32 : decode cX5_isSign 32 = .ok (.getfield 153, 3) := by decide +kernel
theorem dX5_isSign_35 : decode cX5_isSign 35 = .ok (.iaload, 1) := by decide +kernel
theorem dX5_isSign_36 : decode cX5_isSign 36 = .ok (.iload_n 2, 1) := by decide +kernel
theorem dX5_isSign_37 : decode cX5_isSign 37 = .ok (.isub, 1) := by decide +kernel
theorem dX5_isSign_38 : decode cX5_isSign 38 = .ok (.iastore, 1) := by decide +kernel
theorem dX5_isSign_39 : decode cX5_isSign 39 = .ok (.aload_n 0, 1) := by decide +kernel
theorem dX5_isSign_40 : decode cX5_isSign 40 = .ok (.dup, 1) := by decide +kernel
theorem dX5_isSign_41 : decode cX5_isSign 41 = .ok (.getfield 153, 3) := by decide +kernel
theorem dX5_isSign_44 : decode cX5_isSign 44 = .ok (.iconst 1, 1) := by decide +kernel
theorem dX5_isSign_45 : decode cX5_isSign 45 = .ok (.iadd, 1) := by decide +kernel
theorem dX5_isSign_46 : decode cX5_isSign 46 = .ok (.putfield 153, 3) := by decide +kernel
theorem dX5_isSign_49 : decode cX5_isSign 49 = .ok (.iconst 1, 1) := by decide +kernel
theorem dX5_isSign_50 : decode cX5_isSign 50 = .ok (.ireturn, 1) := by decide +kernel
set_option maxRecDepth 20000 in
theorem ggX5_isGift_X5_isSign : GoodIn wsX5_isGift wsX5_isSign := goodIn_r _ [9, 1, 2, 3, 4, 10, 11, 12, 8, 13, 14, 15, 16, 17, 18, 19, 20, 21, 22, 23, 24, 25, 26, 27, 28, 29, 30, 31, 32, 33, 34, 35] (by decide +kernel) (by decide +kernel)
set_option maxRecDepth 20000 in
theorem gX5_isGift_X5_isSign : GoodIn wsX5_isGift (wsV RX5 170 RX5 yX5_isSign wsX5_isSign) := goodIn_app (goodIn_of _ (by decide +kernel)) ggX5_isGift_X5_isSign
set_option maxRecDepth 20000 in
theorem ggX5_isGift_X5_isAt : GoodIn wsX5_isGift wsX5_isAt := goodIn_r _ [13, 4, 14, 3, 15, 16, 8, 17, 23, 24, 25, 26, 27, 28, 29, 30, 31, 32, 33, 34, 35] (by decide +kernel) (by decide +kernel)
set_option maxRecDepth 20000 in
theorem gX5_isGift_X5_isAt : GoodIn wsX5_isGift (wsV RX5 160 RX5 yX5_isAt wsX5_isAt) := goodIn_app (goodIn_of _ (by decide +kernel)) ggX5_isGift_X5_isAt
theorem dX5_isGift_0 : decode cX5_isGift 0 = .ok (.aload_n 0, 1) := by decide +kernel
theorem dX5_isGift_1 : decode cX5_isGift 1 = .ok (.iconst 2, 1) := by decide +kernel
theorem dX5_isGift_2 : decode cX5_isGift 2 = .ok (.bipush 48, 2) := by decide +kernel
theorem dX5_isGift_4 : decode cX5_isGift 4 = .ok (.bipush 57, 2) := by decide +kernel
theorem dX5_isGift_6 : decode cX5_isGift 6 = .ok (.invokevirtual 170, 3) := by decide +kernel
theorem dX5_isGift_9 : decode cX5_isGift 9 = .ok (.ifCond .ne 5, 3) := by decide +kernel
theorem dX5_isGift_12 : decode cX5_isGift 12 = .ok (.iconst 0, 1) := by decide +kernel
theorem dX5_isGift_13 : decode cX5_isGift 13 = .ok (.ireturn, 1) := by decide +kernel
theorem dX5_isGift_14 : decode cX5_isGift 14 = .ok (.aload_n 0, 1) := by decide +kernel
theorem dX5_isGift_15 : decode cX5_isGift 15 = .ok (.getfield 23, 3) := by decide +kernel
theorem dX5_isGift_18 : decode cX5_isGift 18 = .ok (.bipush 6, 2) := by decide +kernel
theorem dX5_isGift_20 : decode cX5_isGift 20 = .ok (.aload_n 0, 1) := by decide +kernel
theorem dX5_isGift_21 : decode cX5_isGift 21 = .ok (.getfield 167, 3) := by decide +kernel
theorem dX5_isGift_24 : decode cX5_isGift 24 = .ok (.imul, 1) := by decide +kernel
theorem dX5_isGift_25 : decode cX5_isGift 25 = .ok (.iconst 2, 1) := by decide +kernel
theorem dX5_isGift_26 : decode cX5_isGift 26 = .ok (.iadd, 1) := by decide +kernel
theorem dX5_isGift_27 : decode cX5_isGift 27 = .ok (.iaload, 1) := by decide +kernel
theorem dX5_isGift_28 : decode cX5_isGift 28 = .ok (.istore_n 1, 1) := by decide +kernel
theorem dX5_isGift_29 : decode cX5_isGift 29 = .ok (.iload_n 1, 1) := by decide +kernel
theorem dX5_isGift_30 : decode cX5_isGift 30 = .ok (.ifCond .le 55, 3) := by decide +kernel
theorem dX5_isGift_33 : decode cX5_isGift 33 = .ok (.aload_n 0, 1) := by decide +kernel
theorem dX5_isGift_34 : decode cX5_isGift 34 = .ok (.bipush 48, 2) := by decide +kernel
theorem dX5_isGift_36 : decode cX5_isGift 36 = .ok (.bipush 57, 2) := by decide +kernel
theorem dX5_isGift_38 : decode cX5_isGift 38 = .ok (.invokevirtual 160, 3) := by decide +kernel
theorem dX5_isGift_41 : decode cX5_isGift 41 = .ok (.ifCond .eq 44, 3) := by decide +kernel
theorem dX5_isGift_44 : decode cX5_isGift 44 = .ok (.aload_n 0, 1) := by decide +kernel
theorem dX5_isGift_45 : decode cX5_isGift 45 = .ok (.getfield 23, 3) := by decide +kernel
theorem dX5_isGift_48 : decode cX5_isGift 48 = .ok (.bipush 6, 2) := by decide +kernel
theorem dX5_isGift_50 : decode cX5_isGift 50 = .ok (.aload_n 0, 1) := by decide +kernel
theorem dX5_isGift_51 : decode cX5_isGift 51 = .ok (.getfield 167, 3) := by decide +kernel
theorem dX5_isGift_54 : decode cX5_isGift 54 = .ok (.imul, 1) := by decide +kernel
theorem dX5_isGift_55 : decode cX5_isGift 55 = .ok (.iconst 2, 1) := by decide +kernel
theorem dX5_isGift_56 : decode cX5_isGift 56 = .ok (.iadd, 1) := by decide +kernel
theorem dX5_isGift_57 : decode cX5_isGift 57 = .ok (.bipush 10, 2) := by decide +kernel
theorem dX5_isGift_59 : decode cX5_isGift 59 = .ok (.iload_n 1, 1) := by decide +kernel
theorem dX5_isGift_60 : decode cX5_isGift 60 = .ok (.imul, 1) := by decide +kernel
theorem dX5_isGift_61 : decode cX5_isGift 61 = .ok (.aload_n 0, 1) := by decide +kernel
theorem dX5_isGift_62 : decode cX5_isGift 62 = .ok (.getfield 19, 3) := by decide +kernel
theorem dX5_isGift_65 : decode cX5_isGift 65 = .ok (.aload_n 0, 1) := by decide +kernel
theorem dX5_isGift_66 : decode cX5_isGift 66 = .ok (.getfield 153, 3) := by decide +kernel
theorem dX5_isGift_69 : decode cX5_isGift 69 = .ok (.iaload, 1) := by decide +kernel
theorem dX5_isGift_70 : decode cX5_isGift 70 = .ok (.iadd, 1) := by decide +kernel
theorem dX5_isGift_71 : decode cX5_isGift 71 = .ok (.bipush 48, 2) := by decide +kernel
theorem dX5_isGift_73 : decode cX5_isGift 73 = .ok (.isub, 1) := by decide +kernel
theorem dX5_isGift_74 : decode cX5_isGift 74 = .ok (.iastore, 1) := by decide +kernel
theorem dX5_isGift_75 : decode cX5_isGift 75 = .ok (.aload_n 0, 1) := by decide +kernel
theorem dX5_isGift_76 : decode cX5_isGift 76 = .ok (.dup, 1) := by decide +kernel
theorem dX5_isGift_77 : decode cX5_isGift 77 = .ok (.getfield 153, 3) := by decide +kernel
theorem dX5_isGift_80 : decode cX5_isGift 80 = .ok (.iconst 1, 1) := by decide +kernel
theorem dX5_isGift_81 : decode cX5_isGift 81 = .ok (.iadd, 1) := by decide +kernel
theorem dX5_isGift_82 : decode cX5_isGift 82 = .ok (.putfield 153, 3) := by decide +kernel
theorem dX5_isGift_85 : decode cX5_isGift 85 = .ok (.iconst 1, 1) := by decide +kernel
theorem dX5_isGift_86 : decode cX5_isGift 86 = .ok (.ireturn, 1) := by decide +kernel
set_option maxRecDepth 20000 in
theorem ggX5_isPart_X5_isSign : GoodIn wsX5_isPart wsX5_isSign := goodIn_r _ [8, 1, 2, 9, 3, 10, 11, 12, 7, 13, 14, 15, 16, 17, 18, 19, 20, 21, 22, 27, 28, 29, 30, 31, 32, 33, 34, 35, 36, 37, 38, 39] (by decide +kernel) (by decide +kernel)
set_option maxRecDepth 20000 in
theorem gX5_isPart_X5_isSign : GoodIn wsX5_isPart (wsV RX5 170 RX5 yX5_isSign wsX5_isSign) := goodIn_app (goodIn_of _ (by decide +kernel)) ggX5_isPart_X5_isSign
set_option maxRecDepth 20000 in
theorem ggX5_isPart_X5_isGift : GoodIn wsX5_isPart wsX5_isGift := goodIn_r _ [26, 1, 2, 9, 3, 4, 5, 6, 7, 8, 10, 11, 12, 13, 14, 15, 16, 17, 18, 19, 20, 21, 22, 27, 28, 29, 30, 31, 32, 33, 34, 35, 36, 37, 38, 39] (by decide +kernel) (by decide +kernel)
set_option maxRecDepth 20000 in
theorem gX5_isPart_X5_isGift : GoodIn wsX5_isPart (wsV RX5 174 RX5 yX5_isGift wsX5_isGift) := goodIn_app (goodIn_of _ (by decide +kernel)) ggX5_isPart_X5_isGift
set_option maxRecDepth 20000 in
theorem ggX5_isPart_X5_isAt : GoodIn wsX5_isPart wsX5_isAt := goodIn_r _ [13, 3, 14, 9, 15, 16, 7, 17, 27, 28, 29, 30, 31, 32, 33, 34, 35, 36, 37, 38, 39] (by decide +kernel) (by decide +kernel)
set_option maxRecDepth 20000 in
theorem gX5_isPart_X5_isAt : GoodIn wsX5_isPart (wsV RX5 160 RX5 yX5_isAt wsX5_isAt) := goodIn_app (goodIn_of _ (by decide +kernel)) ggX5_isPart_X5_isAt
theorem dX5_isPart_0 : decode cX5_isPart 0 = .ok (.aload_n 0, 1) := by decide +kernel
theorem dX5_isPart_1 : decode cX5_isPart 1 = .ok (.getfield 23, 3) := by decide +kernel
theorem dX5_isPart_4 : decode cX5_isPart 4 = .ok (.bipush 6, 2) := by decide +kernel
theorem dX5_isPart_6 : decode cX5_isPart 6 = .ok (.aload_n 0, 1) := by decide +kernel
theorem dX5_isPart_7 : decode cX5_isPart 7 = .ok (.getfield 167, 3) := by decide +kernel
theorem dX5_isPart_10 : decode cX5_isPart 10 = .ok (.imul, 1) := by decide +kernel
theorem dX5_isPart_11 : decode cX5_isPart 11 = .ok (.iconst 5, 1) := by decide +kernel
theorem dX5_isPart_12 : decode cX5_isPart 12 = .ok (.iadd, 1) := by decide +kernel
theorem dX5_isPart_13 : decode cX5_isPart 13 = .ok (.iconst (-1), 1) := by decide +kernel
theorem dX5_isPart_14 : decode cX5_isPart 14 = .ok (.iastore, 1) := by decide +kernel
theorem dX5_isPart_15 : decode cX5_isPart 15 = .ok (.aload_n 0, 1) := by decide +kernel
theorem dX5_isPart_16 : decode cX5_isPart 16 = .ok (.iconst 0, 1) := by decide +kernel
theorem dX5_isPart_17 : decode cX5_isPart 17 = .ok (.bipush 48, 2) := by decide +kernel
theorem dX5_isPart_19 : decode cX5_isPart 19 = .ok (.bipush 51, 2) := by decide +kernel
theorem dX5_isPart_21 : decode cX5_isPart 21 = .ok (.invokevirtual 170, 3) := by decide +kernel
theorem dX5_isPart_24 : decode cX5_isPart 24 = .ok (.ifCond .eq 34, 3) := by decide +kernel
theorem dX5_isPart_27 : decode cX5_isPart 27 = .ok (.aload_n 0, 1) := by decide +kernel
theorem dX5_isPart_28 : decode cX5_isPart 28 = .ok (.iconst 1, 1) := by decide +kernel
theorem dX5_isPart_29 : decode cX5_isPart 29 = .ok (.bipush 97, 2) := by decide +kernel
theorem dX5_isPart_31 : decode cX5_isPart 31 = .ok (.bipush 100, 2) := by decide +kernel
theorem dX5_isPart_33 : decode cX5_isPart 33 = .ok (.invokevirtual 170, 3) := by decide +kernel
theorem dX5_isPart_36 : decode cX5_isPart 36 = .ok (.ifCond .eq 22, 3) := by decide +kernel
theorem dX5_isPart_39 : decode cX5_isPart 39 = .ok (.aload_n 0, 1) := by decide +kernel
theorem dX5_isPart_40 : decode cX5_isPart 40 = .ok (.iconst 2, 1) := by decide +kernel
theorem dX5_isPart_41 : decode cX5_isPart 41 = .ok (.bipush 61, 2) := by decide +kernel
theorem dX5_isPart_43 : decode cX5_isPart 43 = .ok (.bipush 61, 2) := by decide +kernel
theorem dX5_isPart_45 : decode cX5_isPart 45 = .ok (.invokevirtual 170, 3) := by decide +kernel
theorem dX5_isPart_48 : decode cX5_isPart 48 = .ok (.ifCond .eq 10, 3) := by decide +kernel
theorem dX5_isPart_51 : decode cX5_isPart 51 = .ok (.aload_n 0, 1) := by decide +kernel
theorem dX5_isPart_52 : decode cX5_isPart 52 = .ok (.invokevirtual 174, 3) := by decide +kernel
theorem dX5_isPart_55 : decode cX5_isPart 55 = .ok (.ifCond .ne 5, 3) := by decide +kernel
theorem dX5_isPart_58 : decode cX5_isPart 58 = .ok (.iconst 0, 1) := by decide +kernel
theorem dX5_isPart_59 : decode cX5_isPart 59 = .ok (.ireturn, 1) := by decide +kernel
theorem dX5_isPart_60 : decode cX5_isPart 60 = .ok (.aload_n 0, 1) := by decide +kernel
theorem dX5_isPart_61 : decode cX5_isPart 61 = .ok (.bipush 62, 2) := by decide +kernel
theorem dX5_isPart_63 : decode cX5_isPart 63 = .ok (.bipush 62, 2) := by decide +kernel
theorem dX5_isPart_65 : decode cX5_isPart 65 = .ok (.invokevirtual 160, 3) := by decide +kernel
theorem dX5_isPart_68 : decode cX5_isPart 68 = .ok (.ifCond .ne 5, 3) := by decide +kernel
theorem dX5_isPart_71 : decode cX5_isPart 71 = .ok (.iconst 1, 1) := by decide +kernel
theorem dX5_isPart_72 : decode cX5_isPart 72 = .ok (.ireturn, 1) := by decide +kernel
theorem dX5_isPart_73 : decode cX5_isPart 73 = .ok (.aload_n 0, 1) := by decide +kernel
theorem dX5_isPart_74 : decode cX5_isPart 74 = .ok (.dup, 1) := by decide +kernel
theorem dX5_isPart_75 : decode cX5_isPart 75 = .ok (.getfield 153, 3) := by decide +kernel
theorem dX5_isPart_78 : decode cX5_isPart 78 = .ok (.iconst 1, 1) := by decide +kernel
theorem dX5_isPart_79 : decode cX5_isPart 79 = .ok (.iadd, 1) := by decide +kernel
theorem dX5_isPart_80 : decode cX5_isPart 80 = .ok (.putfield 153, 3) := by decide +kernel
theorem dX5_isPart_83 : decode cX5_isPart 83 = .ok (.aload_n 0, 1) := by decide +kernel
theorem dX5_isPart_84 : decode cX5_isPart 84 = .ok (.iconst 3, 1) := by decide +kernel
theorem dX5_isPart_85 : decode cX5_isPart 85 = .ok (.bipush 97, 2) := by decide +kernel
theorem dX5_isPart_87 : decode cX5_isPart 87 = .ok (.bipush 100, 2) := by decide +kernel
theorem dX5_isPart_89 : decode cX5_isPart 89 = .ok (.invokevirtual 170, 3) := by decide +kernel
theorem dX5_isPart_92 : decode cX5_isPart 92 = .ok (.ifCond .eq 31, 3) := by decide +kernel
theorem dX5_isPart_95 : decode cX5_isPart 95 = .ok (.aload_n 0, 1) := by decide +kernel
theorem dX5_isPart_96 : decode cX5_isPart 96 = .ok (.iconst 4, 1) := by decide +kernel
theorem dX5_isPart_97 : decode cX5_isPart 97 = .ok (.bipush 97, 2) := by decide +kernel
theorem dX5_isPart_99 : decode cX5_isPart 99 = .ok (.bipush 100, 2) := by decide +kernel
theorem dX5_isPart_101 : decode cX5_isPart 101 = .ok (.invokevirtual 170, 3) := by decide +kernel
theorem dX5_isPart_104 : decode cX5_isPart 104 = .ok (.ifCond .eq 19, 3) := by decide +kernel
theorem dX5_isPart_107 : decode cX5_isPart 107 = .ok (.aload_n 0, 1) := by decide +kernel
theorem dX5_isPart_108 : decode cX5_isPart 108 = .ok (.iconst 5, 1) := by decide +kernel
theorem dX5_isPart_109 : decode cX5_isPart 109 = .ok (.bipush 48, 2) := by decide +kernel
theorem dX5_isPart_111 : decode cX5_isPart 111 = .ok (.bipush 56, 2) := by decide +kernel
theorem dX5_isPart_113 : decode cX5_isPart 113 = .ok (.invokevirtual 170, 3) := by decide +kernel
theorem dX5_isPart_116 : decode cX5_isPart 116 = .ok (.ifCond .eq 7, 3) := by decide +kernel
theorem dX5_isPart_119 : decode cX5_isPart 119 = .ok (.iconst 1, 1) := by decide +kernel
theorem dX5_isPart_120 : decode cX5_isPart 120 = .ok (.goto 4, 3) := by decide +kernel
theorem dX5_isPart_123 : decode cX5_isPart 123 = .ok (.iconst 0, 1) := by decide +kernel
theorem dX5_isPart_124 : decode cX5_isPart 124 = .ok (.ireturn, 1) := by decide +kernel
set_option maxRecDepth 20000 in
theorem ggX5_isText_X5_isPart : GoodIn wsX5_isText wsX5_isPart := goodIn_r _ [9, 10, 2, 1, 11, 12, 13, 8, 14, 15, 16, 17, 18, 19, 4, 20, 21, 22, 23, 24, 25, 26, 3, 27, 28, 29, 30, 31, 32, 33, 34, 35, 36, 37, 38, 39, 40, 41, 42, 43] (by decide +kernel) (by decide +kernel)
set_option maxRecDepth 20000 in
theorem gX5_isText_X5_isPart : GoodIn wsX5_isText (wsV RX5 177 RX5 yX5_isPart wsX5_isPart) := goodIn_app (goodIn_of _ (by decide +kernel)) ggX5_isText_X5_isPart
set_option maxRecDepth 20000 in
theorem ggX5_isText_X5_isAt : GoodIn wsX5_isText wsX5_isAt := goodIn_r _ [19, 1, 4, 15, 20, 21, 8, 22, 31, 32, 33, 34, 35, 36, 37, 38, 39, 40, 41, 42, 43] (by decide +kernel) (by decide +kernel)
set_option maxRecDepth 20000 in
theorem gX5_isText_X5_isAt : GoodIn wsX5_isText (wsV RX5 160 RX5 yX5_isAt wsX5_isAt) := goodIn_app (goodIn_of _ (by decide +kernel)) ggX5_isText_X5_isAt
theorem dX5_isText_0 : decode cX5_isText 0 = .ok (.aload_n 0, 1) := by decide +kernel
theorem dX5_isText_1 : decode cX5_isText 1 = .ok (.iconst 0, 1) := by decide +kernel
theorem dX5_isText_2 : decode cX5_isText 2 = .ok (.putfield 153, 3) := by decide +kernel
theorem dX5_isText_5 : decode cX5_isText 5 = .ok (.aload_n 0, 1) := by decide +kernel
theorem dX5_isText_6 : decode cX5_isText 6 = .ok (.iconst 0, 1) := by decide +kernel
theorem dX5_isText_7 : decode cX5_isText 7 = .ok (.putfield 167, 3) := by decide +kernel
theorem dX5_isText_10 : decode cX5_isText 10 = .ok (.aload_n 0, 1) := by decide +kernel
theorem dX5_isText_11 : decode cX5_isText 11 = .ok (.iconst 0, 1) := by decide +kernel
theorem dX5_isText_12 : decode cX5_isText 12 = .ok (.putfield 156, 3) := by decide +kernel
theorem dX5_isText_15 : decode cX5_isText 15 = .ok (.iconst 1, 1) := by decide +kernel
theorem dX5_isText_16 : decode cX5_isText 16 = .ok (.istore_n 1, 1) := by decide +kernel
theorem dX5_isText_17 : decode cX5_isText 17 = .ok (.iload_n 1, 1) := by decide +kernel
theorem dX5_isText_18 : decode cX5_isText 18 = .ok (.ifCond .eq 52, 3) := by decide +kernel
theorem dX5_isText_21 : decode cX5_isText 21 = .ok (.aload_n 0, 1) := by decide +kernel
theorem dX5_isText_22 : decode cX5_isText 22 = .ok (.invokevirtual 177, 3) := by decide +kernel
theorem dX5_isText_25 : decode cX5_isText 25 = .ok (.ifCond .ne 5, 3) := by decide +kernel
theorem dX5_isText_28 : decode cX5_isText 28 = .ok (.iconst 0, 1) := by decide +kernel
theorem dX5_isText_29 : decode cX5_isText 29 = .ok (.ireturn, 1) := by decide +kernel
theorem dX5_isText_30 : decode cX5_isText 30 = .ok (.aload_n 0, 1) := by decide +kernel
theorem dX5_isText_31 : decode cX5_isText 31 = .ok (.dup, 1) := by decide +kernel
theorem dX5_isText_32 : decode cX5_isText 32 = .ok (.getfield 167, 3) := by decide +kernel
theorem dX5_isText_35 : decode cX5_isText 35 = .ok (.iconst 1, 1) := by decide +kernel
theorem dX5_isText_36 : decode cX5_isText 36 = .ok (.iadd, 1) := by decide +kernel
theorem dX5_isText_37 : decode cX5_isText 37 = .ok (.putfield 167, 3) := by decide +kernel
theorem dX5_isText_40 : decode cX5_isText 40 = .ok (.aload_n 0, 1) := by decide +kernel
theorem dX5_isText_41 : decode cX5_isText 41 = .ok (.bipush 59, 2) := by decide +kernel
theorem dX5_isText_43 : decode cX5_isText 43 = .ok (.bipush 59, 2) := by decide +kernel
theorem dX5_isText_45 : decode cX5_isText 45 = .ok (.invokevirtual 160, 3) := by decide +kernel
theorem dX5_isText_48 : decode cX5_isText 48 = .ok (.istore_n 1, 1) := by decide +kernel
theorem dX5_isText_49 : decode cX5_isText 49 = .ok (.aload_n 0, 1) := by decide +kernel
theorem dX5_isText_50 : decode cX5_isText 50 = .ok (.dup, 1) := by decide +kernel
theorem dX5_isText_51 : decode cX5_isText 51 = .ok (.getfield 153, 3) := by decide +kernel
theorem dX5_isText_54 : decode cX5_isText 54 = .ok (.iload_n 1, 1) := by decide +kernel
theorem dX5_isText_55 : decode cX5_isText 55 = .ok (.ifCond .eq 7, 3) := by decide +kernel
theorem dX5_isText_58 : decode cX5_isText 58 = .ok (.iconst 1, 1) := by decide +kernel
theorem dX5_isText_59 : decode cX5_isText 59 = .ok (.goto 4, 3) := by decide +kernel
theorem dX5_isText_62 : decode cX5_isText 62 = .ok (.iconst 0, 1) := by decide +kernel
theorem dX5_isText_63 : decode cX5_isText 63 = .ok (.iadd, 1) := by decide +kernel
theorem dX5_isText_64 : decode cX5_isText 64 = .ok (.putfield 153, 3) := by decide +kernel
theorem dX5_isText_67 : decode cX5_isText 67 = .ok (.goto (-50), 3) := by decide +kernel
theorem dX5_isText_70 : decode cX5_isText 70 = .ok (.aload_n 0, 1) := by decide +kernel
theorem dX5_isText_71 : decode cX5_isText 71 = .ok (.aload_n 0, 1) := by decide +kernel
theorem dX5_isText_72 : decode cX5_isText 72 = .ok (.getfield 153, 3) := by decide +kernel
theorem dX5_isText_75 : decode cX5_isText 75 = .ok (.aload_n 0, 1) := by decide +kernel
theorem dX5_isText_76 : decode cX5_isText 76 = .ok (.getfield 150, 3) := by decide +kernel
theorem dX5_isText_79 : decode cX5_isText 79 = .ok (.if_icmp .ge 7, 3) := by decide +kernel
theorem dX5_isText_82 : decode cX5_isText 82 = .ok (.iconst 1, 1) := by decide +kernel
theorem dX5_isText_83 : decode cX5_isText 83 = .ok (.goto 4, 3) := by decide +kernel
theorem dX5_isText_86 : decode cX5_isText 86 = .ok (.iconst 0, 1) := by decide +kernel
theorem dX5_isText_87 : decode cX5_isText 87 = .ok (.putfield 156, 3) := by decide +kernel
theorem dX5_isText_90 : decode cX5_isText 90 = .ok (.aload_n 0, 1) := by decide +kernel
theorem dX5_isText_91 : decode cX5_isText 91 = .ok (.getfield 153, 3) := by decide +kernel
theorem dX5_isText_94 : decode cX5_isText 94 = .ok (.aload_n 0, 1) := by decide +kernel
theorem dX5_isText_95 : decode cX5_isText 95 = .ok (.getfield 150, 3) := by decide +kernel
theorem dX5_isText_98 : decode cX5_isText 98 = .ok (.if_icmp .ne 7, 3) := by decide +kernel
theorem dX5_isText_101 : decode cX5_isText 101 = .ok (.iconst 1, 1) := by decide +kernel
theorem dX5_isText_102 : decode cX5_isText 102 = .ok (.goto 4, 3) := by decide +kernel
theorem dX5_isText_105 : decode cX5_isText 105 = .ok (.iconst 0, 1) := by decide +kernel
theorem dX5_isText_106 : decode cX5_isText 106 = .ok (.ireturn, 1) := by decide +kernel
set_option maxRecDepth 20000 in
theorem ggX5_firstError_X5_isText : GoodIn wsX5_firstError wsX5_isText := goodIn_r _ [9, 3, 10, 2, 4, 11, 12, 13, 8, 14, 15, 16, 17, 18, 19, 20, 21, 22, 23, 24, 25, 26, 27, 28, 29, 30, 31, 32, 33, 34, 35, 36, 37, 38, 39, 40, 41, 42, 43, 44, 45, 46, 47, 48] (by decide +kernel) (by decide +kernel)
set_option maxRecDepth 20000 in
theorem gX5_firstError_X5_isText : GoodIn wsX5_firstError (wsV RX5 180 RX5 yX5_isText wsX5_isText) := goodIn_app (goodIn_of _ (by decide +kernel)) ggX5_firstError_X5_isText
theorem dX5_firstError_0 : decode cX5_firstError 0 = .ok (.aload_n 0, 1) := by decide +kernel
theorem dX5_firstError_1 : decode cX5_firstError 1 = .ok (.iconst 0, 1) := by decide +kernel
theorem dX5_firstError_2 : decode cX5_firstError 2 = .ok (.putfield 42, 3) := by decide +kernel
theorem dX5_firstError_5 : decode cX5_firstError 5 = .ok (.aload_n 0, 1) := by decide +kernel
theorem dX5_firstError_6 : decode cX5_firstError 6 = .ok (.invokevirtual 180, 3) := by decide +kernel
theorem dX5_firstError_9 : decode cX5_firstError 9 = .ok (.istore_n 1, 1) := by decide +kernel
theorem dX5_firstError_10 : decode cX5_firstError 10 = .ok (.iload_n 1, 1) := by decide +kernel
theorem dX5_firstError_11 : decode cX5_firstError 11 = .ok (.ifCond .ne 17, 3) := by decide +kernel
theorem dX5_firstError_14 : decode cX5_firstError 14 = .ok (.aload_n 0, 1) := by decide +kernel
theorem dX5_firstError_15 : decode cX5_firstError 15 = .ok (.getfield 156, 3) := by decide +kernel
theorem dX5_firstError_18 : decode cX5_firstError 18 = .ok (.ifCond .eq 10, 3) := by decide +kernel
theorem dX5_firstError_21 : decode cX5_firstError 21 = .ok (.aload_n 0, 1) := by decide +kernel
theorem dX5_firstError_22 : decode cX5_firstError 22 = .ok (.getfield 153, 3) := by decide +kernel
theorem dX5_firstError_25 : decode cX5_firstError 25 = .ok (.goto 7, 3) := by decide +kernel
theorem dX5_firstError_28 : decode cX5_firstError 28 = .ok (.aload_n 0, 1) := by decide +kernel
theorem dX5_firstError_29 : decode cX5_firstError 29 = .ok (.getfield 150, 3) := by decide +kernel
theorem dX5_firstError_32 : decode cX5_firstError 32 = .ok (.ireturn, 1) := by decide +kernel
set_option maxRecDepth 20000 in
theorem ggX5_read_X5_isText : GoodIn wsX5_read wsX5_isText := goodIn_r _ [9, 10, 3, 11, 2, 12, 13, 14, 8, 15, 4, 16, 17, 18, 19, 20, 21, 22, 23, 24, 25, 26, 27, 28, 29, 30, 31, 32, 33, 34, 35, 55, 56, 57, 58, 59, 60, 61, 62, 63, 64, 65, 66, 67] (by decide +kernel) (by decide +kernel)
set_option maxRecDepth 20000 in
theorem gX5_read_X5_isText : GoodIn wsX5_read (wsV RX5 180 RX5 yX5_isText wsX5_isText) := goodIn_app (goodIn_of _ (by decide +kernel)) ggX5_read_X5_isText
set_option maxRecDepth 20000 in
theorem ggX5_read_X5_fails : GoodIn wsX5_read wsX5_fails := goodIn_r _ [39, 1, 55, 56, 57, 58, 59, 60, 61, 62, 63, 64, 65, 66, 67] (by decide +kernel) (by decide +kernel)
set_option maxRecDepth 20000 in
theorem gX5_read_X5_fails : GoodIn wsX5_read (wsV RX5 53 RX5 yX5_fails wsX5_fails) := goodIn_app (goodIn_of _ (by decide +kernel)) ggX5_read_X5_fails
set_option maxRecDepth 20000 in
theorem ggX5_read_X5_saves : GoodIn wsX5_read wsX5_saves := goodIn_r _ [43, 44, 45, 46, 55, 56, 57, 58, 59, 60, 61, 62, 63, 64, 65, 66, 67] (by decide +kernel) (by decide +kernel)
set_option maxRecDepth 20000 in
theorem gX5_read_X5_saves : GoodIn wsX5_read (wsV RX5 127 RX5 yX5_saves wsX5_saves) := goodIn_app (goodIn_of _ (by decide +kernel)) ggX5_read_X5_saves
set_option maxRecDepth 20000 in
theorem ggX5_read_X5_changes : GoodIn wsX5_read wsX5_changes := goodIn_r _ [50, 46, 55, 56, 57, 58, 59, 60, 61, 62, 63, 64, 65, 66, 67] (by decide +kernel) (by decide +kernel)
set_option maxRecDepth 20000 in
theorem gX5_read_X5_changes : GoodIn wsX5_read (wsV RX5 130 RX5 yX5_changes wsX5_changes) := goodIn_app (goodIn_of _ (by decide +kernel)) ggX5_read_X5_changes
set_option maxRecDepth 20000 in
theorem ggX5_read_X5_ways : GoodIn wsX5_read wsX5_ways := goodIn_r _ [54, 47, 48, 49, 8, 50, 46, 55, 56, 57, 58, 59, 60, 61, 62, 63, 64, 65, 66, 67] (by decide +kernel) (by decide +kernel)
set_option maxRecDepth 20000 in
theorem gX5_read_X5_ways : GoodIn wsX5_read (wsV RX5 134 RX5 yX5_ways wsX5_ways) := goodIn_app (goodIn_of _ (by decide +kernel)) ggX5_read_X5_ways
theorem dX5_read_0 : decode cX5_read 0 = .ok (.aload_n 0, 1) := by decide +kernel
theorem dX5_read_1 : decode cX5_read 1 = .ok (.iconst 0, 1) := by decide +kernel
theorem dX5_read_2 : decode cX5_read 2 = .ok (.putfield 42, 3) := by decide +kernel
theorem dX5_read_5 : decode cX5_read 5 = .ok (.aload_n 0, 1) := by decide +kernel
theorem dX5_read_6 : decode cX5_read 6 = .ok (.invokevirtual 180, 3) := by decide +kernel
theorem dX5_read_9 : decode cX5_read 9 = .ok (.ifCond .ne 9, 3) := by decide +kernel
theorem dX5_read_12 : decode cX5_read 12 = .ok (.aload_n 0, 1) := by decide +kernel
theorem dX5_read_13 : decode cX5_read 13 = .ok (.iconst 1, 1) := by decide +kernel
theorem dX5_read_14 : decode cX5_read 14 = .ok (.invokevirtual 53, 3) := by decide +kernel
theorem dX5_read_17 : decode cX5_read 17 = .ok (.ireturn, 1) := by decide +kernel
theorem dX5_read_18 : decode cX5_read 18 = .ok (.aload_n 0, 1) := by decide +kernel
theorem dX5_read_19 : decode cX5_read 19 = .ok (.invokevirtual 127, 3) := by decide +kernel
theorem dX5_read_22 : decode cX5_read 22 = .ok (.aload_n 0, 1) := by decide +kernel
theorem dX5_read_23 : decode cX5_read 23 = .ok (.iconst 0, 1) := by decide +kernel
theorem dX5_read_24 : decode cX5_read 24 = .ok (.putfield 150, 3) := by decide +kernel
theorem dX5_read_27 : decode cX5_read 27 = .ok (.iconst 0, 1) := by decide +kernel
theorem dX5_read_28 : decode cX5_read 28 = .ok (.istore_n 1, 1) := by decide +kernel
theorem dX5_read_29 : decode cX5_read 29 = .ok (.iload_n 1, 1) := by decide +kernel
theorem dX5_read_30 : decode cX5_read 30 = .ok (.aload_n 0, 1) := by decide +kernel
theorem dX5_read_31 : decode cX5_read 31 = .ok (.getfield 167, 3) := by decide +kernel
theorem dX5_read_34 : decode cX5_read 34 = .ok (.if_icmp .ge 112, 3) := by decide +kernel
theorem dX5_read_37 : decode cX5_read 37 = .ok (.aload_n 0, 1) := by decide +kernel
theorem dX5_read_38 : decode cX5_read 38 = .ok (.getfield 23, 3) := by decide +kernel
theorem dX5_read_41 : decode cX5_read 41 = .ok (.bipush 6, 2) := by decide +kernel
theorem dX5_read_43 : decode cX5_read 43 = .ok (.iload_n 1, 1) := by decide +kernel
theorem dX5_read_44 : decode cX5_read 44 = .ok (.imul, 1) := by decide +kernel
theorem dX5_read_45 : decode cX5_read 45 = .ok (.iaload, 1) := by decide +kernel
theorem dX5_read_46 : decode cX5_read 46 = .ok (.istore_n 2, 1) := by decide +kernel
theorem dX5_read_47 : decode cX5_read 47 = .ok (.aload_n 0, 1) := by decide +kernel
theorem dX5_read_48 : decode cX5_read 48 = .ok (.getfield 23, 3) := by decide +kernel
theorem dX5_read_51 : decode cX5_read 51 = .ok (.bipush 6, 2) := by decide +kernel
theorem dX5_read_53 : decode cX5_read 53 = .ok (.iload_n 1, 1) := by decide +kernel
theorem dX5_read_54 : decode cX5_read 54 = .ok (.imul, 1) := by decide +kernel
theorem dX5_read_55 : decode cX5_read 55 = .ok (.iconst 1, 1) := by decide +kernel
theorem dX5_read_56 : decode cX5_read 56 = .ok (.iadd, 1) := by decide +kernel
theorem dX5_read_57 : decode cX5_read 57 = .ok (.iaload, 1) := by decide +kernel
theorem dX5_read_58 : decode cX5_read 58 = .ok (.istore_n 3, 1) := by decide +kernel
theorem dX5_read_59 : decode cX5_read 59 = .ok (.aload_n 0, 1) := by decide +kernel
theorem dX5_read_60 : decode cX5_read 60 = .ok (.bipush 18, 2) := by decide +kernel
theorem dX5_read_62 : decode cX5_read 62 = .ok (.iconst 4, 1) := by decide +kernel
theorem dX5_read_63 : decode cX5_read 63 = .ok (.iconst 4, 1) := by decide +kernel
theorem dX5_read_64 : decode cX5_read 64 = .ok (.iload_n 2, 1) := by decide +kernel
theorem dX5_read_65 : decode cX5_read 65 = .ok (.imul, 1) := by decide +kernel
theorem dX5_read_66 : decode cX5_read 66 = .ok (.iload_n 3, 1) := by decide +kernel
theorem dX5_read_67 : decode cX5_read 67 = .ok (.iadd, 1) := by decide +kernel
theorem dX5_read_68 : decode cX5_read 68 = .ok (.imul, 1) := by decide +kernel
theorem dX5_read_69 : decode cX5_read 69 = .ok (.iadd, 1) := by decide +kernel
theorem dX5_read_70 : decode cX5_read 70 = .ok (.aload_n 0, 1) := by decide +kernel
theorem dX5_read_71 : decode cX5_read 71 = .ok (.getfield 23, 3) := by decide +kernel
theorem dX5_read_74 : decode cX5_read 74 = .ok (.bipush 6, 2) := by decide +kernel
theorem dX5_read_76 : decode cX5_read 76 = .ok (.iload_n 1, 1) := by decide +kernel
theorem dX5_read_77 : decode cX5_read 77 = .ok (.imul, 1) := by decide +kernel
theorem dX5_read_78 : decode cX5_read 78 = .ok (.iconst 2, 1) := by decide +kernel
theorem dX5_read_79 : decode cX5_read 79 = .ok (.iadd, 1) := by decide +kernel
theorem dX5_read_80 : decode cX5_read 80 = .ok (.iaload, 1) := by decide +kernel
theorem dX5_read_81 : decode cX5_read 81 = .ok (.invokevirtual 130, 3) := by decide +kernel
theorem dX5_read_84 : decode cX5_read 84 = .ok (.pop, 1) := by decide +kernel
theorem dX5_read_85 : decode cX5_read 85 = .ok (.aload_n 0, 1) := by decide +kernel
theorem dX5_read_86 : decode cX5_read 86 = .ok (.getfield 23, 3) := by decide +kernel
theorem dX5_read_89 : decode cX5_read 89 = .ok (.bipush 6, 2) := by decide +kernel
theorem dX5_read_91 : decode cX5_read 91 = .ok (.iload_n 1, 1) := by decide +kernel
theorem dX5_read_92 : decode cX5_read 92 = .ok (.imul, 1) := by decide +kernel
theorem dX5_read_93 : decode cX5_read 93 = .ok (.iconst 5, 1) := by decide +kernel
theorem dX5_read_94 : decode cX5_read 94 = .ok (.iadd, 1) := by decide +kernel
theorem dX5_read_95 : decode cX5_read 95 = .ok (.iaload, 1) := by decide +kernel
theorem dX5_read_96 : decode cX5_read 96 = .ok (.iconst (-1), 1) := by decide +kernel
theorem dX5_read_97 : decode cX5_read 97 = .ok (.if_icmp .eq 43, 3) := by decide +kernel
theorem dX5_read_100 : decode cX5_read 100 = .ok (.aload_n 0, 1) := by decide +kernel
theorem dX5_read_101 : decode cX5_read 101 = .ok (.iload_n 2, 1) := by decide +kernel
theorem dX5_read_102 : decode cX5_read 102 = .ok (.iload_n 3, 1) := by decide +kernel
theorem dX5_read_103 : decode cX5_read 103 = .ok (.aload_n 0, 1) := by decide +kernel
theorem dX5_read_104 : decode cX5_read 104 = .ok (.getfield 23, 3) := by decide +kernel
theorem dX5_read_107 : decode cX5_read 107 = .ok (.bipush 6, 2) := by decide +kernel
theorem dX5_read_109 : decode cX5_read 109 = .ok (.iload_n 1, 1) := by decide +kernel
theorem dX5_read_110 : decode cX5_read 110 = .ok (.imul, 1) := by decide +kernel
theorem dX5_read_111 : decode cX5_read 111 = .ok (.iconst 3, 1) := by decide +kernel
theorem dX5_read_112 : decode cX5_read 112 = .ok (.iadd, 1) := by decide +kernel
theorem dX5_read_113 : decode cX5_read 113 = .ok (.iaload, 1) := by decide +kernel
theorem dX5_read_114 : decode cX5_read 114 = .ok (.aload_n 0, 1) := by decide +kernel
theorem dX5_read_115 : decode cX5_read 115 = .ok (.getfield 23, 3) := by decide +kernel
theorem dX5_read_118 : decode cX5_read 118 = .ok (.bipush 6, 2) := by decide +kernel
theorem dX5_read_120 : decode cX5_read 120 = .ok (.iload_n 1, 1) := by decide +kernel
theorem dX5_read_121 : decode cX5_read 121 = .ok (.imul, 1) := by decide +kernel
theorem dX5_read_122 : decode cX5_read 122 = .ok (.iconst 4, 1) := by decide +kernel
theorem dX5_read_123 : decode cX5_read 123 = .ok (.iadd, 1) := by decide +kernel
theorem dX5_read_124 : decode cX5_read 124 = .ok (.iaload, 1) := by decide +kernel
theorem dX5_read_125 : decode cX5_read 125 = .ok (.aload_n 0, 1) := by decide +kernel
theorem dX5_read_126 : decode cX5_read 126 = .ok (.getfield 23, 3) := by decide +kernel
theorem dX5_read_129 : decode cX5_read 129 = .ok (.bipush 6, 2) := by decide +kernel
theorem dX5_read_131 : decode cX5_read 131 = .ok (.iload_n 1, 1) := by decide +kernel
theorem dX5_read_132 : decode cX5_read 132 = .ok (.imul, 1) := by decide +kernel
theorem dX5_read_133 : decode cX5_read 133 = .ok (.iconst 5, 1) := by decide +kernel
theorem dX5_read_134 : decode cX5_read 134 = .ok (.iadd, 1) := by decide +kernel
theorem dX5_read_135 : decode cX5_read 135 = .ok (.iaload, 1) := by decide +kernel
theorem dX5_read_136 : decode cX5_read 136 = .ok (.invokevirtual 134, 3) := by decide +kernel
theorem dX5_read_139 : decode cX5_read 139 = .ok (.pop, 1) := by decide +kernel
theorem dX5_read_140 : decode cX5_read 140 = .ok (.iinc 1 1, 3) := by decide +kernel
theorem dX5_read_143 : decode cX5_read 143 = .ok (.goto (-114), 3) := by decide +kernel
theorem dX5_read_146 : decode cX5_read 146 = .ok (.aload_n 0, 1) := by decide +kernel
theorem dX5_read_147 : decode cX5_read 147 = .ok (.getfield 167, 3) := by decide +kernel
theorem dX5_read_150 : decode cX5_read 150 = .ok (.ireturn, 1) := by decide +kernel
set_option maxRecDepth 20000 in
theorem ggX5_reached_X5_of : GoodIn wsX5_reached wsX5_of := goodIn_r _ [5] (by decide +kernel) (by decide +kernel)
set_option maxRecDepth 20000 in
theorem gX5_reached_X5_of : GoodIn wsX5_reached (va_wsS RX5 57 yX5_of wsX5_of) := goodIn_app (goodIn_of _ (by decide +kernel)) ggX5_reached_X5_of
theorem dX5_reached_0 : decode cX5_reached 0 = .ok (.iconst 1, 1) := by decide +kernel
theorem dX5_reached_1 : decode cX5_reached 1 = .ok (.iload_n 2, 1) := by decide +kernel
theorem dX5_reached_2 : decode cX5_reached 2 = .ok (.ishl, 1) := by decide +kernel
theorem dX5_reached_3 : decode cX5_reached 3 = .ok (.istore_n 3, 1) := by decide +kernel
theorem dX5_reached_4 : decode cX5_reached 4 = .ok (.iconst 0, 1) := by decide +kernel
theorem dX5_reached_5 : decode cX5_reached 5 = .ok (.istore 4, 2) := by decide +kernel
theorem dX5_reached_7 : decode cX5_reached 7 = .ok (.iload 4, 2) := by decide +kernel
theorem dX5_reached_9 : decode cX5_reached 9 = .ok (.iload_n 3, 1) := by decide +kernel
theorem dX5_reached_10 : decode cX5_reached 10 = .ok (.if_icmp .eq 105, 3) := by decide +kernel
theorem dX5_reached_13 : decode cX5_reached 13 = .ok (.iload_n 3, 1) := by decide +kernel
theorem dX5_reached_14 : decode cX5_reached 14 = .ok (.istore 4, 2) := by decide +kernel
theorem dX5_reached_16 : decode cX5_reached 16 = .ok (.iconst 0, 1) := by decide +kernel
theorem dX5_reached_17 : decode cX5_reached 17 = .ok (.istore 5, 2) := by decide +kernel
theorem dX5_reached_19 : decode cX5_reached 19 = .ok (.iload 5, 2) := by decide +kernel
theorem dX5_reached_21 : decode cX5_reached 21 = .ok (.iconst 4, 1) := by decide +kernel
theorem dX5_reached_22 : decode cX5_reached 22 = .ok (.if_icmp .ge 90, 3) := by decide +kernel
theorem dX5_reached_25 : decode cX5_reached 25 = .ok (.iload 4, 2) := by decide +kernel
theorem dX5_reached_27 : decode cX5_reached 27 = .ok (.iload 5, 2) := by decide +kernel
theorem dX5_reached_29 : decode cX5_reached 29 = .ok (.ishr, 1) := by decide +kernel
theorem dX5_reached_30 : decode cX5_reached 30 = .ok (.iconst 1, 1) := by decide +kernel
theorem dX5_reached_31 : decode cX5_reached 31 = .ok (.iand, 1) := by decide +kernel
theorem dX5_reached_32 : decode cX5_reached 32 = .ok (.iconst 1, 1) := by decide +kernel
theorem dX5_reached_33 : decode cX5_reached 33 = .ok (.if_icmp .ne 73, 3) := by decide +kernel
theorem dX5_reached_36 : decode cX5_reached 36 = .ok (.iload_n 3, 1) := by decide +kernel
theorem dX5_reached_37 : decode cX5_reached 37 = .ok (.aload_n 0, 1) := by decide +kernel
theorem dX5_reached_38 : decode cX5_reached 38 = .ok (.getfield 7, 3) := by decide +kernel
theorem dX5_reached_41 : decode cX5_reached 41 = .ok (.iload_n 1, 1) := by decide +kernel
theorem dX5_reached_42 : decode cX5_reached 42 = .ok (.iload 5, 2) := by decide +kernel
theorem dX5_reached_44 : decode cX5_reached 44 = .ok (.iconst 3, 1) := by decide +kernel
theorem dX5_reached_45 : decode cX5_reached 45 = .ok (.invokestatic 57, 3) := by decide +kernel
theorem dX5_reached_48 : decode cX5_reached 48 = .ok (.ifCond .le 19, 3) := by decide +kernel
theorem dX5_reached_51 : decode cX5_reached 51 = .ok (.iconst 1, 1) := by decide +kernel
theorem dX5_reached_52 : decode cX5_reached 52 = .ok (.aload_n 0, 1) := by decide +kernel
theorem dX5_reached_53 : decode cX5_reached 53 = .ok (.getfield 7, 3) := by decide +kernel
theorem dX5_reached_56 : decode cX5_reached 56 = .ok (.iload_n 1, 1) := by decide +kernel
theorem dX5_reached_57 : decode cX5_reached 57 = .ok (.iload 5, 2) := by decide +kernel
theorem dX5_reached_59 : decode cX5_reached 59 = .ok (.iconst 1, 1) := by decide +kernel
theorem dX5_reached_60 : decode cX5_reached 60 = .ok (.invokestatic 57, 3) := by decide +kernel
theorem dX5_reached_63 : decode cX5_reached 63 = .ok (.ishl, 1) := by decide +kernel
theorem dX5_reached_64 : decode cX5_reached 64 = .ok (.goto 4, 3) := by decide +kernel
theorem dX5_reached_67 : decode cX5_reached 67 = .ok (.iconst 0, 1) := by decide +kernel
theorem dX5_reached_68 : decode cX5_reached 68 = .ok (.ior, 1) := by decide +kernel
theorem dX5_reached_69 : decode cX5_reached 69 = .ok (.istore_n 3, 1) := by decide +kernel
theorem dX5_reached_70 : decode cX5_reached 70 = .ok (.iload_n 3, 1) := by decide +kernel
theorem dX5_reached_71 : decode cX5_reached 71 = .ok (.aload_n 0, 1) := by decide +kernel
theorem dX5_reached_72 : decode cX5_reached 72 = .ok (.getfield 7, 3) := by decide +kernel
theorem dX5_reached_75 : decode cX5_reached 75 = .ok (.iload_n 1, 1) := by decide +kernel
theorem dX5_reached_76 : decode cX5_reached 76 = .ok (.iload 5, 2) := by decide +kernel
theorem dX5_reached_78 : decode cX5_reached 78 = .ok (.iconst 3, 1) := by decide +kernel
theorem dX5_reached_79 : decode cX5_reached 79 = .ok (.invokestatic 57, 3) := by decide +kernel
theorem dX5_reached_82 : decode cX5_reached 82 = .ok (.bipush 8, 2) := by decide +kernel
theorem dX5_reached_84 : decode cX5_reached 84 = .ok (.if_icmp .ge 19, 3) := by decide +kernel
theorem dX5_reached_87 : decode cX5_reached 87 = .ok (.iconst 1, 1) := by decide +kernel
theorem dX5_reached_88 : decode cX5_reached 88 = .ok (.aload_n 0, 1) := by decide +kernel
theorem dX5_reached_89 : decode cX5_reached 89 = .ok (.getfield 7, 3) := by decide +kernel
theorem dX5_reached_92 : decode cX5_reached 92 = .ok (.iload_n 1, 1) := by decide +kernel
theorem dX5_reached_93 : decode cX5_reached 93 = .ok (.iload 5, 2) := by decide +kernel
theorem dX5_reached_95 : decode cX5_reached 95 = .ok (.iconst 2, 1) := by decide +kernel
theorem dX5_reached_96 : decode cX5_reached 96 = .ok (.invokestatic 57, 3) := by decide +kernel
theorem dX5_reached_99 : decode cX5_reached 99 = .ok (.ishl, 1) := by decide +kernel
theorem dX5_reached_100 : decode cX5_reached 100 = .ok (.goto 4, 3) := by decide +kernel
theorem dX5_reached_103 : decode cX5_reached 103 = .ok (.iconst 0, 1) := by decide +kernel
theorem dX5_reached_104 : decode cX5_reached 104 = .ok (.ior, 1) := by decide +kernel
theorem dX5_reached_105 : decode cX5_reached 105 = .ok (.istore_n 3, 1) := by decide +kernel
theorem dX5_reached_106 : decode cX5_reached 106 = .ok (.iinc 5 1, 3) := by decide +kernel
theorem dX5_reached_109 : decode cX5_reached 109 = .ok (.goto (-90), 3) := by decide +kernel
theorem dX5_reached_112 : decode cX5_reached 112 = .ok (.goto (-105), 3) := by decide +kernel
theorem dX5_reached_115 : decode cX5_reached 115 = .ok (.iload_n 3, 1) := by decide +kernel
theorem dX5_reached_116 : decode cX5_reached 116 = .ok (.ireturn, 1) := by decide +kernel
set_option maxRecDepth 20000 in
theorem ggX5_ofState_X5_of : GoodIn wsX5_ofState wsX5_of := goodIn_r _ [5] (by decide +kernel) (by decide +kernel)
set_option maxRecDepth 20000 in
theorem gX5_ofState_X5_of : GoodIn wsX5_ofState (va_wsS RX5 57 yX5_of wsX5_of) := goodIn_app (goodIn_of _ (by decide +kernel)) ggX5_ofState_X5_of
set_option maxRecDepth 20000 in
theorem ggX5_ofState_X5_reached : GoodIn wsX5_ofState wsX5_reached := goodIn_r _ [9, 1, 2, 3, 4, 5, 10, 11, 12, 13, 14, 15, 16, 17, 18, 19, 20, 21, 22] (by decide +kernel) (by decide +kernel)
set_option maxRecDepth 20000 in
theorem gX5_ofState_X5_reached : GoodIn wsX5_ofState (wsV RX5 183 RX5 yX5_reached wsX5_reached) := goodIn_app (goodIn_of _ (by decide +kernel)) ggX5_ofState_X5_reached
theorem dX5_ofState_0 : decode cX5_ofState 0 = .ok (.iload_n 3, 1) := by decide +kernel
theorem dX5_ofState_1 : decode cX5_ofState 1 = .ok (.iconst 4, 1) := by decide +kernel
theorem dX5_ofState_2 : decode cX5_ofState 2 = .ok (.if_icmp .ge 16, 3) := by decide +kernel
theorem dX5_ofState_5 : decode cX5_ofState 5 = .ok (.aload_n 0, 1) := by decide +kernel
theorem dX5_ofState_6 : decode cX5_ofState 6 = .ok (.getfield 7, 3) := by decide +kernel
theorem dX5_ofState_9 : decode cX5_ofState 9 = .ok (.iload_n 1, 1) := by decide +kernel
theorem dX5_ofState_10 : decode cX5_ofState 10 = .ok (.iload_n 2, 1) := by decide +kernel
theorem dX5_ofState_11 : decode cX5_ofState 11 = .ok (.iload_n 3, 1) := by decide +kernel
theorem dX5_ofState_12 : decode cX5_ofState 12 = .ok (.invokestatic 57, 3) := by decide +kernel
theorem dX5_ofState_15 : decode cX5_ofState 15 = .ok (.goto 9, 3) := by decide +kernel
theorem dX5_ofState_18 : decode cX5_ofState 18 = .ok (.aload_n 0, 1) := by decide +kernel
theorem dX5_ofState_19 : decode cX5_ofState 19 = .ok (.iload_n 1, 1) := by decide +kernel
theorem dX5_ofState_20 : decode cX5_ofState 20 = .ok (.iload_n 2, 1) := by decide +kernel
theorem dX5_ofState_21 : decode cX5_ofState 21 = .ok (.invokevirtual 183, 3) := by decide +kernel
theorem dX5_ofState_24 : decode cX5_ofState 24 = .ok (.ireturn, 1) := by decide +kernel
set_option maxRecDepth 20000 in
theorem ggX5_stateOf_X5_isArm : GoodIn wsX5_stateOf wsX5_isArm := goodIn_r _ [5, 6, 7, 4, 8] (by decide +kernel) (by decide +kernel)
set_option maxRecDepth 20000 in
theorem gX5_stateOf_X5_isArm : GoodIn wsX5_stateOf (va_wsS RX5 120 yX5_isArm wsX5_isArm) := goodIn_app (goodIn_of _ (by decide +kernel)) ggX5_stateOf_X5_isArm
set_option maxRecDepth 20000 in
theorem ggX5_stateOf_X5_isState : GoodIn wsX5_stateOf wsX5_isState := goodIn_r _ [11, 6, 7, 4, 8] (by decide +kernel) (by decide +kernel)
set_option maxRecDepth 20000 in
theorem gX5_stateOf_X5_isState : GoodIn wsX5_stateOf (va_wsS RX5 124 yX5_isState wsX5_isState) := goodIn_app (goodIn_of _ (by decide +kernel)) ggX5_stateOf_X5_isState
set_option maxRecDepth 20000 in
theorem ggX5_stateOf_X5_fails : GoodIn wsX5_stateOf wsX5_fails := goodIn_r _ [15, 1, 28, 29, 30, 31, 32, 33, 34, 35, 36, 37, 38, 39, 40] (by decide +kernel) (by decide +kernel)
set_option maxRecDepth 20000 in
theorem gX5_stateOf_X5_fails : GoodIn wsX5_stateOf (wsV RX5 53 RX5 yX5_fails wsX5_fails) := goodIn_app (goodIn_of _ (by decide +kernel)) ggX5_stateOf_X5_fails
set_option maxRecDepth 20000 in
theorem ggX5_stateOf_X5_in : GoodIn wsX5_stateOf wsX5_in := goodIn_r _ [8] (by decide +kernel) (by decide +kernel)
set_option maxRecDepth 20000 in
theorem gX5_stateOf_X5_in : GoodIn wsX5_stateOf (va_wsS RX5 46 yX5_in wsX5_in) := goodIn_app (goodIn_of _ (by decide +kernel)) ggX5_stateOf_X5_in
set_option maxRecDepth 20000 in
theorem ggX5_stateOf_X5_ofState : GoodIn wsX5_stateOf wsX5_ofState := goodIn_r _ [19, 20, 21, 22, 4, 23, 24, 25, 26, 27, 28, 29, 30, 31, 32, 33, 34, 35, 36, 37, 38, 39, 40] (by decide +kernel) (by decide +kernel)
set_option maxRecDepth 20000 in
theorem gX5_stateOf_X5_ofState : GoodIn wsX5_stateOf (wsV RX5 186 RX5 yX5_ofState wsX5_ofState) := goodIn_app (goodIn_of _ (by decide +kernel)) ggX5_stateOf_X5_ofState
theorem dX5_stateOf_0 : decode cX5_stateOf 0 = .ok (.aload_n 0, 1) := by decide +kernel
theorem dX5_stateOf_1 : decode cX5_stateOf 1 = .ok (.iconst 0, 1) := by decide +kernel
theorem dX5_stateOf_2 : decode cX5_stateOf 2 = .ok (.putfield 42, 3) := by decide +kernel
theorem dX5_stateOf_5 : decode cX5_stateOf 5 = .ok (.iload_n 1, 1) := by decide +kernel
theorem dX5_stateOf_6 : decode cX5_stateOf 6 = .ok (.invokestatic 120, 3) := by decide +kernel
theorem dX5_stateOf_9 : decode cX5_stateOf 9 = .ok (.ifCond .eq 10, 3) := by decide +kernel
theorem dX5_stateOf_12 : decode cX5_stateOf 12 = .ok (.iload_n 2, 1) := by decide +kernel
theorem dX5_stateOf_13 : decode cX5_stateOf 13 = .ok (.invokestatic 124, 3) := by decide +kernel
theorem dX5_stateOf_16 : decode cX5_stateOf 16 = .ok (.ifCond .ne 9, 3) := by decide +kernel
theorem dX5_stateOf_19 : decode cX5_stateOf 19 = .ok (.aload_n 0, 1) := by decide +kernel
theorem dX5_stateOf_20 : decode cX5_stateOf 20 = .ok (.iconst 1, 1) := by decide +kernel
theorem dX5_stateOf_21 : decode cX5_stateOf 21 = .ok (.invokevirtual 53, 3) := by decide +kernel
theorem dX5_stateOf_24 : decode cX5_stateOf 24 = .ok (.ireturn, 1) := by decide +kernel
theorem dX5_stateOf_25 : decode cX5_stateOf 25 = .ok (.iload_n 3, 1) := by decide +kernel
theorem dX5_stateOf_26 : decode cX5_stateOf 26 = .ok (.i2l, 1) := by decide +kernel
theorem dX5_stateOf_27 : decode cX5_stateOf 27 = .ok (.iconst 0, 1) := by decide +kernel
theorem dX5_stateOf_28 : decode cX5_stateOf 28 = .ok (.iconst 4, 1) := by decide +kernel
theorem dX5_stateOf_29 : decode cX5_stateOf 29 = .ok (.invokestatic 46, 3) := by decide +kernel
theorem dX5_stateOf_32 : decode cX5_stateOf 32 = .ok (.ifCond .eq 13, 3) := by decide +kernel
theorem dX5_stateOf_35 : decode cX5_stateOf 35 = .ok (.aload_n 0, 1) := by decide +kernel
theorem dX5_stateOf_36 : decode cX5_stateOf 36 = .ok (.iload_n 1, 1) := by decide +kernel
theorem dX5_stateOf_37 : decode cX5_stateOf 37 = .ok (.iload_n 2, 1) := by decide +kernel
theorem dX5_stateOf_38 : decode cX5_stateOf 38 = .ok (.iload_n 3, 1) := by decide +kernel
theorem dX5_stateOf_39 : decode cX5_stateOf 39 = .ok (.invokevirtual 186, 3) := by decide +kernel
theorem dX5_stateOf_42 : decode cX5_stateOf 42 = .ok (.goto 8, 3) := by decide +kernel
theorem dX5_stateOf_45 : decode cX5_stateOf 45 = .ok (.aload_n 0, 1) := by decide +kernel
theorem dX5_stateOf_46 : decode cX5_stateOf 46 = .ok (.iconst 2, 1) := by decide +kernel
theorem dX5_stateOf_47 : decode cX5_stateOf 47 = .ok (.invokevirtual 53, 3) := by decide +kernel
theorem dX5_stateOf_50 : decode cX5_stateOf 50 = .ok (.ireturn, 1) := by decide +kernel
set_option maxRecDepth 20000 in
theorem ggX5_index_X5_isArm : GoodIn wsX5_index wsX5_isArm := goodIn_r _ [6, 7, 8, 5, 9] (by decide +kernel) (by decide +kernel)
set_option maxRecDepth 20000 in
theorem gX5_index_X5_isArm : GoodIn wsX5_index (va_wsS RX5 120 yX5_isArm wsX5_isArm) := goodIn_app (goodIn_of _ (by decide +kernel)) ggX5_index_X5_isArm
set_option maxRecDepth 20000 in
theorem ggX5_index_X5_isState : GoodIn wsX5_index wsX5_isState := goodIn_r _ [12, 7, 8, 5, 9] (by decide +kernel) (by decide +kernel)
set_option maxRecDepth 20000 in
theorem gX5_index_X5_isState : GoodIn wsX5_index (va_wsS RX5 124 yX5_isState wsX5_isState) := goodIn_app (goodIn_of _ (by decide +kernel)) ggX5_index_X5_isState
set_option maxRecDepth 20000 in
theorem ggX5_index_X5_indexOf : GoodIn wsX5_index wsX5_indexOf := goodIn_r _ [16, 17, 18, 19, 5, 20, 21, 22, 23, 24, 25, 26, 27, 28, 29, 30, 31, 32, 33, 34, 35, 36, 37, 38, 39, 40, 45, 46, 47, 48, 49, 50, 51, 52, 53, 54, 55, 56, 57] (by decide +kernel) (by decide +kernel)
set_option maxRecDepth 20000 in
theorem gX5_index_X5_indexOf : GoodIn wsX5_index (wsV RX5 86 RX5 yX5_indexOf wsX5_indexOf) := goodIn_app (goodIn_of _ (by decide +kernel)) ggX5_index_X5_indexOf
set_option maxRecDepth 20000 in
theorem ggX5_index_X5_fails : GoodIn wsX5_index wsX5_fails := goodIn_r _ [44, 1, 45, 46, 47, 48, 49, 50, 51, 52, 53, 54, 55, 56, 57] (by decide +kernel) (by decide +kernel)
set_option maxRecDepth 20000 in
theorem gX5_index_X5_fails : GoodIn wsX5_index (wsV RX5 53 RX5 yX5_fails wsX5_fails) := goodIn_app (goodIn_of _ (by decide +kernel)) ggX5_index_X5_fails
theorem dX5_index_0 : decode cX5_index 0 = .ok (.aload_n 0, 1) := by decide +kernel
theorem dX5_index_1 : decode cX5_index 1 = .ok (.iconst 0, 1) := by decide +kernel
theorem dX5_index_2 : decode cX5_index 2 = .ok (.putfield 42, 3) := by decide +kernel
theorem dX5_index_5 : decode cX5_index 5 = .ok (.iload_n 1, 1) := by decide +kernel
theorem dX5_index_6 : decode cX5_index 6 = .ok (.invokestatic 120, 3) := by decide +kernel
theorem dX5_index_9 : decode cX5_index 9 = .ok (.ifCond .eq 23, 3) := by decide +kernel
theorem dX5_index_12 : decode cX5_index 12 = .ok (.iload_n 2, 1) := by decide +kernel
theorem dX5_index_13 : decode cX5_index 13 = .ok (.invokestatic 124, 3) := by decide +kernel
theorem dX5_index_16 : decode cX5_index 16 = .ok (.ifCond .eq 16, 3) := by decide +kernel
theorem dX5_index_19 : decode cX5_index 19 = .ok (.aload_n 0, 1) := by decide +kernel
theorem dX5_index_20 : decode cX5_index 20 = .ok (.aload_n 0, 1) := by decide +kernel
theorem dX5_index_21 : decode cX5_index 21 = .ok (.getfield 7, 3) := by decide +kernel
theorem dX5_index_24 : decode cX5_index 24 = .ok (.iload_n 1, 1) := by decide +kernel
theorem dX5_index_25 : decode cX5_index 25 = .ok (.iload_n 2, 1) := by decide +kernel
theorem dX5_index_26 : decode cX5_index 26 = .ok (.invokevirtual 86, 3) := by decide +kernel
theorem dX5_index_29 : decode cX5_index 29 = .ok (.goto 9, 3) := by decide +kernel
theorem dX5_index_32 : decode cX5_index 32 = .ok (.aload_n 0, 1) := by decide +kernel
theorem dX5_index_33 : decode cX5_index 33 = .ok (.iconst 1, 1) := by decide +kernel
theorem dX5_index_34 : decode cX5_index 34 = .ok (.invokevirtual 53, 3) := by decide +kernel
theorem dX5_index_37 : decode cX5_index 37 = .ok (.i2l, 1) := by decide +kernel
theorem dX5_index_38 : decode cX5_index 38 = .ok (.lreturn, 1) := by decide +kernel
set_option maxRecDepth 20000 in
theorem ggX5_ofArm_X5_greatest : GoodIn wsX5_ofArm wsX5_greatest := goodIn_r _ [6, 1, 7, 8, 9, 5, 10, 11, 12, 13, 14, 15, 16, 17, 18, 19, 20, 21, 22, 23, 24, 25, 26, 27, 28, 29, 30, 31, 32, 33, 34, 42, 43, 44, 45, 46, 47, 48, 49, 50, 51, 52, 53, 54] (by decide +kernel) (by decide +kernel)
set_option maxRecDepth 20000 in
theorem gX5_ofArm_X5_greatest : GoodIn wsX5_ofArm (wsV RX5 190 RX5 yX5_greatest wsX5_greatest) := goodIn_app (goodIn_of _ (by decide +kernel)) ggX5_ofArm_X5_greatest
set_option maxRecDepth 20000 in
theorem ggX5_ofArm_X5_rounds : GoodIn wsX5_ofArm wsX5_rounds := goodIn_r _ [38, 1, 39, 40, 5, 41, 7, 8, 9, 10, 11, 12, 13, 14, 15, 16, 17, 18, 19, 20, 21, 22, 23, 24, 25, 26, 27, 28, 29, 30, 31, 32, 33, 34, 42, 43, 44, 45, 46, 47, 48, 49, 50, 51, 52, 53, 54] (by decide +kernel) (by decide +kernel)
set_option maxRecDepth 20000 in
theorem gX5_ofArm_X5_rounds : GoodIn wsX5_ofArm (wsV RX5 193 RX5 yX5_rounds wsX5_rounds) := goodIn_app (goodIn_of _ (by decide +kernel)) ggX5_ofArm_X5_rounds
theorem dX5_ofArm_0 : decode cX5_ofArm 0 = .ok (.iload_n 2, 1) := by decide +kernel
theorem dX5_ofArm_1 : decode cX5_ofArm 1 = .ok (.iconst 2, 1) := by decide +kernel
theorem dX5_ofArm_2 : decode cX5_ofArm 2 = .ok (.if_icmp .ge 20, 3) := by decide +kernel
theorem dX5_ofArm_5 : decode cX5_ofArm 5 = .ok (.aload_n 0, 1) := by decide +kernel
theorem dX5_ofArm_6 : decode cX5_ofArm 6 = .ok (.getfield 7, 3) := by decide +kernel
theorem dX5_ofArm_9 : decode cX5_ofArm 9 = .ok (.bipush 10, 2) := by decide +kernel
theorem dX5_ofArm_11 : decode cX5_ofArm 11 = .ok (.iconst 2, 1) := by decide +kernel
theorem dX5_ofArm_12 : decode cX5_ofArm 12 = .ok (.iload_n 1, 1) := by decide +kernel
theorem dX5_ofArm_13 : decode cX5_ofArm 13 = .ok (.imul, 1) := by decide +kernel
theorem dX5_ofArm_14 : decode cX5_ofArm 14 = .ok (.iadd, 1) := by decide +kernel
theorem dX5_ofArm_15 : decode cX5_ofArm 15 = .ok (.iload_n 2, 1) := by decide +kernel
theorem dX5_ofArm_16 : decode cX5_ofArm 16 = .ok (.iadd, 1) := by decide +kernel
theorem dX5_ofArm_17 : decode cX5_ofArm 17 = .ok (.laload, 1) := by decide +kernel
theorem dX5_ofArm_18 : decode cX5_ofArm 18 = .ok (.l2i, 1) := by decide +kernel
theorem dX5_ofArm_19 : decode cX5_ofArm 19 = .ok (.goto 21, 3) := by decide +kernel
theorem dX5_ofArm_22 : decode cX5_ofArm 22 = .ok (.iload_n 2, 1) := by decide +kernel
theorem dX5_ofArm_23 : decode cX5_ofArm 23 = .ok (.iconst 2, 1) := by decide +kernel
theorem dX5_ofArm_24 : decode cX5_ofArm 24 = .ok (.if_icmp .ne 11, 3) := by decide +kernel
theorem dX5_ofArm_27 : decode cX5_ofArm 27 = .ok (.aload_n 0, 1) := by decide +kernel
theorem dX5_ofArm_28 : decode cX5_ofArm 28 = .ok (.iload_n 1, 1) := by decide +kernel
theorem dX5_ofArm_29 : decode cX5_ofArm 29 = .ok (.invokevirtual 190, 3) := by decide +kernel
theorem dX5_ofArm_32 : decode cX5_ofArm 32 = .ok (.goto 8, 3) := by decide +kernel
theorem dX5_ofArm_35 : decode cX5_ofArm 35 = .ok (.aload_n 0, 1) := by decide +kernel
theorem dX5_ofArm_36 : decode cX5_ofArm 36 = .ok (.iload_n 1, 1) := by decide +kernel
theorem dX5_ofArm_37 : decode cX5_ofArm 37 = .ok (.invokevirtual 193, 3) := by decide +kernel
theorem dX5_ofArm_40 : decode cX5_ofArm 40 = .ok (.ireturn, 1) := by decide +kernel
set_option maxRecDepth 20000 in
theorem ggX5_arm_X5_isArm : GoodIn wsX5_arm wsX5_isArm := goodIn_r _ [5, 6, 7, 4, 8] (by decide +kernel) (by decide +kernel)
set_option maxRecDepth 20000 in
theorem gX5_arm_X5_isArm : GoodIn wsX5_arm (va_wsS RX5 120 yX5_isArm wsX5_isArm) := goodIn_app (goodIn_of _ (by decide +kernel)) ggX5_arm_X5_isArm
set_option maxRecDepth 20000 in
theorem ggX5_arm_X5_fails : GoodIn wsX5_arm wsX5_fails := goodIn_r _ [12, 1, 57, 58, 59, 60, 61, 62, 63, 64, 65, 66, 67, 68, 69] (by decide +kernel) (by decide +kernel)
set_option maxRecDepth 20000 in
theorem gX5_arm_X5_fails : GoodIn wsX5_arm (wsV RX5 53 RX5 yX5_fails wsX5_fails) := goodIn_app (goodIn_of _ (by decide +kernel)) ggX5_arm_X5_fails
set_option maxRecDepth 20000 in
theorem ggX5_arm_X5_in : GoodIn wsX5_arm wsX5_in := goodIn_r _ [8] (by decide +kernel) (by decide +kernel)
set_option maxRecDepth 20000 in
theorem gX5_arm_X5_in : GoodIn wsX5_arm (va_wsS RX5 46 yX5_in wsX5_in) := goodIn_app (goodIn_of _ (by decide +kernel)) ggX5_arm_X5_in
set_option maxRecDepth 20000 in
theorem ggX5_arm_X5_ofArm : GoodIn wsX5_arm wsX5_ofArm := goodIn_r _ [16, 17, 18, 19, 20, 4, 21, 22, 23, 24, 25, 26, 27, 28, 29, 30, 31, 32, 33, 34, 35, 36, 37, 38, 39, 40, 41, 42, 43, 44, 45, 46, 47, 48, 49, 50, 51, 52, 53, 54, 55, 56, 57, 58, 59, 60, 61, 62, 63, 64, 65, 66, 67, 68, 69] (by decide +kernel) (by decide +kernel)
set_option maxRecDepth 20000 in
theorem gX5_arm_X5_ofArm : GoodIn wsX5_arm (wsV RX5 196 RX5 yX5_ofArm wsX5_ofArm) := goodIn_app (goodIn_of _ (by decide +kernel)) ggX5_arm_X5_ofArm
theorem dX5_arm_0 : decode cX5_arm 0 = .ok (.aload_n 0, 1) := by decide +kernel
theorem dX5_arm_1 : decode cX5_arm 1 = .ok (.iconst 0, 1) := by decide +kernel
theorem dX5_arm_2 : decode cX5_arm 2 = .ok (.putfield 42, 3) := by decide +kernel
theorem dX5_arm_5 : decode cX5_arm 5 = .ok (.iload_n 1, 1) := by decide +kernel
theorem dX5_arm_6 : decode cX5_arm 6 = .ok (.invokestatic 120, 3) := by decide +kernel
theorem dX5_arm_9 : decode cX5_arm 9 = .ok (.ifCond .ne 9, 3) := by decide +kernel
theorem dX5_arm_12 : decode cX5_arm 12 = .ok (.aload_n 0, 1) := by decide +kernel
theorem dX5_arm_13 : decode cX5_arm 13 = .ok (.iconst 1, 1) := by decide +kernel
theorem dX5_arm_14 : decode cX5_arm 14 = .ok (.invokevirtual 53, 3) := by decide +kernel
theorem dX5_arm_17 : decode cX5_arm 17 = .ok (.ireturn, 1) := by decide +kernel
theorem dX5_arm_18 : decode cX5_arm 18 = .ok (.iload_n 2, 1) := by decide +kernel
theorem dX5_arm_19 : decode cX5_arm 19 = .ok (.i2l, 1) := by decide +kernel
theorem dX5_arm_20 : decode cX5_arm 20 = .ok (.iconst 0, 1) := by decide +kernel
theorem dX5_arm_21 : decode cX5_arm 21 = .ok (.iconst 3, 1) := by decide +kernel
theorem dX5_arm_22 : decode cX5_arm 22 = .ok (.invokestatic 46, 3) := by decide +kernel
theorem dX5_arm_25 : decode cX5_arm 25 = .ok (.ifCond .eq 12, 3) := by decide +kernel
theorem dX5_arm_28 : decode cX5_arm 28 = .ok (.aload_n 0, 1) := by decide +kernel
theorem dX5_arm_29 : decode cX5_arm 29 = .ok (.iload_n 1, 1) := by decide +kernel
theorem dX5_arm_30 : decode cX5_arm 30 = .ok (.iload_n 2, 1) := by decide +kernel
theorem dX5_arm_31 : decode cX5_arm 31 = .ok (.invokevirtual 196, 3) := by decide +kernel
theorem dX5_arm_34 : decode cX5_arm 34 = .ok (.goto 8, 3) := by decide +kernel
theorem dX5_arm_37 : decode cX5_arm 37 = .ok (.aload_n 0, 1) := by decide +kernel
theorem dX5_arm_38 : decode cX5_arm 38 = .ok (.iconst 2, 1) := by decide +kernel
theorem dX5_arm_39 : decode cX5_arm 39 = .ok (.invokevirtual 53, 3) := by decide +kernel
theorem dX5_arm_42 : decode cX5_arm 42 = .ok (.ireturn, 1) := by decide +kernel
theorem dX5_counted_0 : decode cX5_counted 0 = .ok (.iload_n 1, 1) := by decide +kernel
theorem dX5_counted_1 : decode cX5_counted 1 = .ok (.iconst 3, 1) := by decide +kernel
theorem dX5_counted_2 : decode cX5_counted 2 = .ok (.if_icmp .ge 15, 3) := by decide +kernel
theorem dX5_counted_5 : decode cX5_counted 5 = .ok (.aload_n 0, 1) := by decide +kernel
theorem dX5_counted_6 : decode cX5_counted 6 = .ok (.getfield 7, 3) := by decide +kernel
theorem dX5_counted_9 : decode cX5_counted 9 = .ok (.iconst 4, 1) := by decide +kernel
theorem dX5_counted_10 : decode cX5_counted 10 = .ok (.iload_n 1, 1) := by decide +kernel
theorem dX5_counted_11 : decode cX5_counted 11 = .ok (.iadd, 1) := by decide +kernel
theorem dX5_counted_12 : decode cX5_counted 12 = .ok (.laload, 1) := by decide +kernel
theorem dX5_counted_13 : decode cX5_counted 13 = .ok (.l2i, 1) := by decide +kernel
theorem dX5_counted_14 : decode cX5_counted 14 = .ok (.goto 7, 3) := by decide +kernel
theorem dX5_counted_17 : decode cX5_counted 17 = .ok (.aload_n 0, 1) := by decide +kernel
theorem dX5_counted_18 : decode cX5_counted 18 = .ok (.getfield 50, 3) := by decide +kernel
theorem dX5_counted_21 : decode cX5_counted 21 = .ok (.ireturn, 1) := by decide +kernel
set_option maxRecDepth 20000 in
theorem ggX5_count_X5_in : GoodIn wsX5_count wsX5_in := goodIn_r _ [5] (by decide +kernel) (by decide +kernel)
set_option maxRecDepth 20000 in
theorem gX5_count_X5_in : GoodIn wsX5_count (va_wsS RX5 46 yX5_in wsX5_in) := goodIn_app (goodIn_of _ (by decide +kernel)) ggX5_count_X5_in
set_option maxRecDepth 20000 in
theorem ggX5_count_X5_counted : GoodIn wsX5_count wsX5_counted := goodIn_r _ [9, 10, 11, 16, 17, 18, 19, 20, 21, 22, 23, 24, 25, 26, 27, 28] (by decide +kernel) (by decide +kernel)
set_option maxRecDepth 20000 in
theorem gX5_count_X5_counted : GoodIn wsX5_count (wsV RX5 199 RX5 yX5_counted wsX5_counted) := goodIn_app (goodIn_of _ (by decide +kernel)) ggX5_count_X5_counted
set_option maxRecDepth 20000 in
theorem ggX5_count_X5_fails : GoodIn wsX5_count wsX5_fails := goodIn_r _ [15, 1, 16, 17, 18, 19, 20, 21, 22, 23, 24, 25, 26, 27, 28] (by decide +kernel) (by decide +kernel)
set_option maxRecDepth 20000 in
theorem gX5_count_X5_fails : GoodIn wsX5_count (wsV RX5 53 RX5 yX5_fails wsX5_fails) := goodIn_app (goodIn_of _ (by decide +kernel)) ggX5_count_X5_fails
theorem dX5_count_0 : decode cX5_count 0 = .ok (.aload_n 0, 1) := by decide +kernel
theorem dX5_count_1 : decode cX5_count 1 = .ok (.iconst 0, 1) := by decide +kernel
theorem dX5_count_2 : decode cX5_count 2 = .ok (.putfield 42, 3) := by decide +kernel
theorem dX5_count_5 : decode cX5_count 5 = .ok (.iload_n 1, 1) := by decide +kernel
theorem dX5_count_6 : decode cX5_count 6 = .ok (.i2l, 1) := by decide +kernel
theorem dX5_count_7 : decode cX5_count 7 = .ok (.iconst 0, 1) := by decide +kernel
theorem dX5_count_8 : decode cX5_count 8 = .ok (.iconst 3, 1) := by decide +kernel
theorem dX5_count_9 : decode cX5_count 9 = .ok (.invokestatic 46, 3) := by decide +kernel
theorem dX5_count_12 : decode cX5_count 12 = .ok (.ifCond .eq 11, 3) := by decide +kernel
theorem dX5_count_15 : decode cX5_count 15 = .ok (.aload_n 0, 1) := by decide +kernel
theorem dX5_count_16 : decode cX5_count 16 = .ok (.iload_n 1, 1) := by decide +kernel
theorem dX5_count_17 : decode cX5_count 17 = .ok (.invokevirtual 199, 3) := by decide +kernel
theorem dX5_count_20 : decode cX5_count 20 = .ok (.goto 8, 3) := by decide +kernel
theorem dX5_count_23 : decode cX5_count 23 = .ok (.aload_n 0, 1) := by decide +kernel
theorem dX5_count_24 : decode cX5_count 24 = .ok (.iconst 1, 1) := by decide +kernel
theorem dX5_count_25 : decode cX5_count 25 = .ok (.invokevirtual 53, 3) := by decide +kernel
theorem dX5_count_28 : decode cX5_count 28 = .ok (.ireturn, 1) := by decide +kernel
set_option maxRecDepth 20000 in
theorem ggX5_sum_X5_in : GoodIn wsX5_sum wsX5_in := goodIn_r _ [6] (by decide +kernel) (by decide +kernel)
set_option maxRecDepth 20000 in
theorem gX5_sum_X5_in : GoodIn wsX5_sum (va_wsS RX5 46 yX5_in wsX5_in) := goodIn_app (goodIn_of _ (by decide +kernel)) ggX5_sum_X5_in
set_option maxRecDepth 20000 in
theorem ggX5_sum_X5_fails : GoodIn wsX5_sum wsX5_fails := goodIn_r _ [10, 1, 11, 12, 13, 14, 15, 16, 17, 18, 19, 20, 21, 22, 23] (by decide +kernel) (by decide +kernel)
set_option maxRecDepth 20000 in
theorem gX5_sum_X5_fails : GoodIn wsX5_sum (wsV RX5 53 RX5 yX5_fails wsX5_fails) := goodIn_app (goodIn_of _ (by decide +kernel)) ggX5_sum_X5_fails
theorem dX5_sum_0 : decode cX5_sum 0 = .ok (.aload_n 0, 1) := by decide +kernel
theorem dX5_sum_1 : decode cX5_sum 1 = .ok (.iconst 0, 1) := by decide +kernel
theorem dX5_sum_2 : decode cX5_sum 2 = .ok (.putfield 42, 3) := by decide +kernel
theorem dX5_sum_5 : decode cX5_sum 5 = .ok (.iload_n 1, 1) := by decide +kernel
theorem dX5_sum_6 : decode cX5_sum 6 = .ok (.i2l, 1) := by decide +kernel
theorem dX5_sum_7 : decode cX5_sum 7 = .ok (.iconst 0, 1) := by decide +kernel
theorem dX5_sum_8 : decode cX5_sum 8 = .ok (.iconst 2, 1) := by decide +kernel
theorem dX5_sum_9 : decode cX5_sum 9 = .ok (.invokestatic 46, 3) := by decide +kernel
theorem dX5_sum_12 : decode cX5_sum 12 = .ok (.ifCond .eq 15, 3) := by decide +kernel
theorem dX5_sum_15 : decode cX5_sum 15 = .ok (.aload_n 0, 1) := by decide +kernel
theorem dX5_sum_16 : decode cX5_sum 16 = .ok (.getfield 7, 3) := by decide +kernel
theorem dX5_sum_19 : decode cX5_sum 19 = .ok (.bipush 7, 2) := by decide +kernel
theorem dX5_sum_21 : decode cX5_sum 21 = .ok (.iload_n 1, 1) := by decide +kernel
theorem dX5_sum_22 : decode cX5_sum 22 = .ok (.iadd, 1) := by decide +kernel
theorem dX5_sum_23 : decode cX5_sum 23 = .ok (.laload, 1) := by decide +kernel
theorem dX5_sum_24 : decode cX5_sum 24 = .ok (.goto 9, 3) := by decide +kernel
theorem dX5_sum_27 : decode cX5_sum 27 = .ok (.aload_n 0, 1) := by decide +kernel
theorem dX5_sum_28 : decode cX5_sum 28 = .ok (.iconst 1, 1) := by decide +kernel
theorem dX5_sum_29 : decode cX5_sum 29 = .ok (.invokevirtual 53, 3) := by decide +kernel
theorem dX5_sum_32 : decode cX5_sum 32 = .ok (.i2l, 1) := by decide +kernel
theorem dX5_sum_33 : decode cX5_sum 33 = .ok (.lreturn, 1) := by decide +kernel
set_option maxRecDepth 20000 in
theorem ggX5_setting_X5_in : GoodIn wsX5_setting wsX5_in := goodIn_r _ [6] (by decide +kernel) (by decide +kernel)
set_option maxRecDepth 20000 in
theorem gX5_setting_X5_in : GoodIn wsX5_setting (va_wsS RX5 46 yX5_in wsX5_in) := goodIn_app (goodIn_of _ (by decide +kernel)) ggX5_setting_X5_in
set_option maxRecDepth 20000 in
theorem ggX5_setting_X5_fails : GoodIn wsX5_setting wsX5_fails := goodIn_r _ [10, 1, 11, 12, 13, 14, 15, 16, 17, 18, 19, 20, 21, 22, 23] (by decide +kernel) (by decide +kernel)
set_option maxRecDepth 20000 in
theorem gX5_setting_X5_fails : GoodIn wsX5_setting (wsV RX5 53 RX5 yX5_fails wsX5_fails) := goodIn_app (goodIn_of _ (by decide +kernel)) ggX5_setting_X5_fails
theorem dX5_setting_0 : decode cX5_setting 0 = .ok (.aload_n 0, 1) := by decide +kernel
theorem dX5_setting_1 : decode cX5_setting 1 = .ok (.iconst 0, 1) := by decide +kernel
theorem dX5_setting_2 : decode cX5_setting 2 = .ok (.putfield 42, 3) := by decide +kernel
theorem dX5_setting_5 : decode cX5_setting 5 = .ok (.iload_n 1, 1) := by decide +kernel
theorem dX5_setting_6 : decode cX5_setting 6 = .ok (.i2l, 1) := by decide +kernel
theorem dX5_setting_7 : decode cX5_setting 7 = .ok (.iconst 0, 1) := by decide +kernel
theorem dX5_setting_8 : decode cX5_setting 8 = .ok (.iconst 3, 1) := by decide +kernel
theorem dX5_setting_9 : decode cX5_setting 9 = .ok (.invokestatic 46, 3) := by decide +kernel
theorem dX5_setting_12 : decode cX5_setting 12 = .ok (.ifCond .eq 13, 3) := by decide +kernel
theorem dX5_setting_15 : decode cX5_setting 15 = .ok (.aload_n 0, 1) := by decide +kernel
theorem dX5_setting_16 : decode cX5_setting 16 = .ok (.getfield 7, 3) := by decide +kernel
theorem dX5_setting_19 : decode cX5_setting 19 = .ok (.iload_n 1, 1) := by decide +kernel
theorem dX5_setting_20 : decode cX5_setting 20 = .ok (.laload, 1) := by decide +kernel
theorem dX5_setting_21 : decode cX5_setting 21 = .ok (.l2i, 1) := by decide +kernel
theorem dX5_setting_22 : decode cX5_setting 22 = .ok (.goto 8, 3) := by decide +kernel
theorem dX5_setting_25 : decode cX5_setting 25 = .ok (.aload_n 0, 1) := by decide +kernel
theorem dX5_setting_26 : decode cX5_setting 26 = .ok (.iconst 1, 1) := by decide +kernel
theorem dX5_setting_27 : decode cX5_setting 27 = .ok (.invokevirtual 53, 3) := by decide +kernel
theorem dX5_setting_30 : decode cX5_setting 30 = .ok (.ireturn, 1) := by decide +kernel
set_option maxRecDepth 20000 in
theorem ggX5_choice_X5_in : GoodIn wsX5_choice wsX5_in := goodIn_r _ [6] (by decide +kernel) (by decide +kernel)
set_option maxRecDepth 20000 in
theorem gX5_choice_X5_in : GoodIn wsX5_choice (va_wsS RX5 46 yX5_in wsX5_in) := goodIn_app (goodIn_of _ (by decide +kernel)) ggX5_choice_X5_in
set_option maxRecDepth 20000 in
theorem ggX5_choice_X5_chosen : GoodIn wsX5_choice wsX5_chosen := goodIn_r _ [10, 11, 12, 13, 14, 5, 15, 16, 17, 18, 19, 20, 21, 22, 23, 24, 25, 26, 27, 28, 29, 30, 31, 32, 33, 34, 35, 36, 37, 38, 39, 40, 41, 42, 43, 44, 45, 46, 47, 48, 49, 50, 55, 56, 57, 58, 59, 60, 61, 62, 63, 64, 65, 66, 67] (by decide +kernel) (by decide +kernel)
set_option maxRecDepth 20000 in
theorem gX5_choice_X5_chosen : GoodIn wsX5_choice (wsV RX5 114 RX5 yX5_chosen wsX5_chosen) := goodIn_app (goodIn_of _ (by decide +kernel)) ggX5_choice_X5_chosen
set_option maxRecDepth 20000 in
theorem ggX5_choice_X5_fails : GoodIn wsX5_choice wsX5_fails := goodIn_r _ [54, 1, 55, 56, 57, 58, 59, 60, 61, 62, 63, 64, 65, 66, 67] (by decide +kernel) (by decide +kernel)
set_option maxRecDepth 20000 in
theorem gX5_choice_X5_fails : GoodIn wsX5_choice (wsV RX5 53 RX5 yX5_fails wsX5_fails) := goodIn_app (goodIn_of _ (by decide +kernel)) ggX5_choice_X5_fails
theorem dX5_choice_0 : decode cX5_choice 0 = .ok (.aload_n 0, 1) := by decide +kernel
theorem dX5_choice_1 : decode cX5_choice 1 = .ok (.iconst 0, 1) := by decide +kernel
theorem dX5_choice_2 : decode cX5_choice 2 = .ok (.putfield 42, 3) := by decide +kernel
theorem dX5_choice_5 : decode cX5_choice 5 = .ok (.iload_n 1, 1) := by decide +kernel
theorem dX5_choice_6 : decode cX5_choice 6 = .ok (.i2l, 1) := by decide +kernel
theorem dX5_choice_7 : decode cX5_choice 7 = .ok (.iconst 0, 1) := by decide +kernel
theorem dX5_choice_8 : decode cX5_choice 8 = .ok (.iconst 2, 1) := by decide +kernel
theorem dX5_choice_9 : decode cX5_choice 9 = .ok (.invokestatic 46, 3) := by decide +kernel
theorem dX5_choice_12 : decode cX5_choice 12 = .ok (.ifCond .eq 15, 3) := by decide +kernel
theorem dX5_choice_15 : decode cX5_choice 15 = .ok (.aload_n 0, 1) := by decide +kernel
theorem dX5_choice_16 : decode cX5_choice 16 = .ok (.aload_n 0, 1) := by decide +kernel
theorem dX5_choice_17 : decode cX5_choice 17 = .ok (.getfield 7, 3) := by decide +kernel
theorem dX5_choice_20 : decode cX5_choice 20 = .ok (.iload_n 1, 1) := by decide +kernel
theorem dX5_choice_21 : decode cX5_choice 21 = .ok (.invokevirtual 114, 3) := by decide +kernel
theorem dX5_choice_24 : decode cX5_choice 24 = .ok (.goto 8, 3) := by decide +kernel
theorem dX5_choice_27 : decode cX5_choice 27 = .ok (.aload_n 0, 1) := by decide +kernel
theorem dX5_choice_28 : decode cX5_choice 28 = .ok (.iconst 1, 1) := by decide +kernel
theorem dX5_choice_29 : decode cX5_choice 29 = .ok (.invokevirtual 53, 3) := by decide +kernel
theorem dX5_choice_32 : decode cX5_choice 32 = .ok (.ireturn, 1) := by decide +kernel
set_option maxRecDepth 20000 in
theorem ggX5_byPlay_X5_tries : GoodIn wsX5_byPlay wsX5_tries := goodIn_r _ [7, 1, 2, 71, 72, 73, 74, 75, 76, 77, 78, 79, 80, 81, 82, 83] (by decide +kernel) (by decide +kernel)
set_option maxRecDepth 20000 in
theorem gX5_byPlay_X5_tries : GoodIn wsX5_byPlay (wsV RX5 202 RX5 yX5_tries wsX5_tries) := goodIn_app (goodIn_of _ (by decide +kernel)) ggX5_byPlay_X5_tries
set_option maxRecDepth 20000 in
theorem ggX5_byPlay_X5_plays : GoodIn wsX5_byPlay wsX5_plays := goodIn_r _ [11, 12, 13, 14, 6, 15, 16, 17, 18, 19, 20, 21, 22, 23, 24, 25, 26, 27, 28, 29, 30, 31, 32, 33, 34, 35, 36, 37, 38, 39, 40, 41, 42, 43, 44, 45, 46, 47, 48, 49, 50, 51, 52, 53, 54, 55, 56, 57, 58, 59, 60, 61, 62, 63, 64, 65, 66, 67, 68, 69, 70, 71, 72, 73, 74, 75, 76, 77, 78, 79, 80, 81, 82, 83] (by decide +kernel) (by decide +kernel)
set_option maxRecDepth 20000 in
theorem gX5_byPlay_X5_plays : GoodIn wsX5_byPlay (wsV RX5 147 RX5 yX5_plays wsX5_plays) := goodIn_app (goodIn_of _ (by decide +kernel)) ggX5_byPlay_X5_plays
theorem dX5_byPlay_0 : decode cX5_byPlay 0 = .ok (.aload_n 0, 1) := by decide +kernel
theorem dX5_byPlay_1 : decode cX5_byPlay 1 = .ok (.invokevirtual 202, 3) := by decide +kernel
theorem dX5_byPlay_4 : decode cX5_byPlay 4 = .ok (.aload_n 0, 1) := by decide +kernel
theorem dX5_byPlay_5 : decode cX5_byPlay 5 = .ok (.aload_n 0, 1) := by decide +kernel
theorem dX5_byPlay_6 : decode cX5_byPlay 6 = .ok (.getfield 13, 3) := by decide +kernel
theorem dX5_byPlay_9 : decode cX5_byPlay 9 = .ok (.iload_n 1, 1) := by decide +kernel
theorem dX5_byPlay_10 : decode cX5_byPlay 10 = .ok (.iload_n 2, 1) := by decide +kernel
theorem dX5_byPlay_11 : decode cX5_byPlay 11 = .ok (.invokevirtual 147, 3) := by decide +kernel
theorem dX5_byPlay_14 : decode cX5_byPlay 14 = .ok (.aload_n 0, 1) := by decide +kernel
theorem dX5_byPlay_15 : decode cX5_byPlay 15 = .ok (.getfield 13, 3) := by decide +kernel
theorem dX5_byPlay_18 : decode cX5_byPlay 18 = .ok (.bipush 7, 2) := by decide +kernel
theorem dX5_byPlay_20 : decode cX5_byPlay 20 = .ok (.laload, 1) := by decide +kernel
theorem dX5_byPlay_21 : decode cX5_byPlay 21 = .ok (.aload_n 0, 1) := by decide +kernel
theorem dX5_byPlay_22 : decode cX5_byPlay 22 = .ok (.getfield 7, 3) := by decide +kernel
theorem dX5_byPlay_25 : decode cX5_byPlay 25 = .ok (.bipush 7, 2) := by decide +kernel
theorem dX5_byPlay_27 : decode cX5_byPlay 27 = .ok (.laload, 1) := by decide +kernel
theorem dX5_byPlay_28 : decode cX5_byPlay 28 = .ok (.lsub, 1) := by decide +kernel
theorem dX5_byPlay_29 : decode cX5_byPlay 29 = .ok (.lreturn, 1) := by decide +kernel
set_option maxRecDepth 20000 in
theorem ggX5_ifPlayed_X5_isPlay : GoodIn wsX5_ifPlayed wsX5_isPlay := goodIn_r _ [5, 6, 7, 4, 8] (by decide +kernel) (by decide +kernel)
set_option maxRecDepth 20000 in
theorem gX5_ifPlayed_X5_isPlay : GoodIn wsX5_ifPlayed (va_wsS RX5 144 yX5_isPlay wsX5_isPlay) := goodIn_app (goodIn_of _ (by decide +kernel)) ggX5_ifPlayed_X5_isPlay
set_option maxRecDepth 20000 in
theorem ggX5_ifPlayed_X5_byPlay : GoodIn wsX5_ifPlayed wsX5_byPlay := goodIn_r _ [12, 13, 14, 15, 16, 17, 4, 18, 19, 20, 21, 22, 23, 24, 25, 26, 27, 28, 29, 30, 31, 32, 33, 34, 35, 36, 37, 38, 39, 40, 41, 42, 43, 44, 45, 46, 47, 48, 49, 50, 51, 52, 53, 54, 55, 56, 57, 58, 59, 60, 61, 62, 63, 64, 65, 66, 67, 68, 69, 70, 71, 72, 73, 74, 75, 76, 77, 78, 79, 80, 81, 86, 87, 88, 89, 90, 91, 92, 93, 94, 95, 96, 97, 98] (by decide +kernel) (by decide +kernel)
set_option maxRecDepth 20000 in
theorem gX5_ifPlayed_X5_byPlay : GoodIn wsX5_ifPlayed (wsV RX5 205 RX5 yX5_byPlay wsX5_byPlay) := goodIn_app (goodIn_of _ (by decide +kernel)) ggX5_ifPlayed_X5_byPlay
set_option maxRecDepth 20000 in
theorem ggX5_ifPlayed_X5_fails : GoodIn wsX5_ifPlayed wsX5_fails := goodIn_r _ [85, 1, 86, 87, 88, 89, 90, 91, 92, 93, 94, 95, 96, 97, 98] (by decide +kernel) (by decide +kernel)
set_option maxRecDepth 20000 in
theorem gX5_ifPlayed_X5_fails : GoodIn wsX5_ifPlayed (wsV RX5 53 RX5 yX5_fails wsX5_fails) := goodIn_app (goodIn_of _ (by decide +kernel)) ggX5_ifPlayed_X5_fails
theorem dX5_ifPlayed_0 : decode cX5_ifPlayed 0 = .ok (.aload_n 0, 1) := by decide +kernel
theorem dX5_ifPlayed_1 : decode cX5_ifPlayed 1 = .ok (.iconst 0, 1) := by decide +kernel
theorem dX5_ifPlayed_2 : decode cX5_ifPlayed 2 = .ok (.putfield 42, 3) := by decide +kernel
theorem dX5_ifPlayed_5 : decode cX5_ifPlayed 5 = .ok (.iload_n 1, 1) := by decide +kernel
theorem dX5_ifPlayed_6 : decode cX5_ifPlayed 6 = .ok (.iload_n 2, 1) := by decide +kernel
theorem dX5_ifPlayed_7 : decode cX5_ifPlayed 7 = .ok (.invokestatic 144, 3) := by decide +kernel
theorem dX5_ifPlayed_10 : decode cX5_ifPlayed 10 = .ok (.ifCond .eq 12, 3) := by decide +kernel
theorem dX5_ifPlayed_13 : decode cX5_ifPlayed 13 = .ok (.aload_n 0, 1) := by decide +kernel
theorem dX5_ifPlayed_14 : decode cX5_ifPlayed 14 = .ok (.iload_n 1, 1) := by decide +kernel
theorem dX5_ifPlayed_15 : decode cX5_ifPlayed 15 = .ok (.iload_n 2, 1) := by decide +kernel
theorem dX5_ifPlayed_16 : decode cX5_ifPlayed 16 = .ok (.invokevirtual 205, 3) := by decide +kernel
theorem dX5_ifPlayed_19 : decode cX5_ifPlayed 19 = .ok (.goto 9, 3) := by decide +kernel
theorem dX5_ifPlayed_22 : decode cX5_ifPlayed 22 = .ok (.aload_n 0, 1) := by decide +kernel
theorem dX5_ifPlayed_23 : decode cX5_ifPlayed 23 = .ok (.iconst 1, 1) := by decide +kernel
theorem dX5_ifPlayed_24 : decode cX5_ifPlayed 24 = .ok (.invokevirtual 53, 3) := by decide +kernel
theorem dX5_ifPlayed_27 : decode cX5_ifPlayed 27 = .ok (.i2l, 1) := by decide +kernel
theorem dX5_ifPlayed_28 : decode cX5_ifPlayed 28 = .ok (.lreturn, 1) := by decide +kernel
set_option maxRecDepth 20000 in
theorem ggX5_best_X5_byPlay : GoodIn wsX5_best wsX5_byPlay := goodIn_r _ [5, 6, 7, 8, 9, 10, 4, 11, 12, 13, 14, 15, 16, 17, 18, 19, 20, 21, 22, 23, 24, 25, 26, 27, 28, 29, 30, 31, 32, 33, 34, 35, 36, 37, 38, 39, 40, 41, 42, 43, 44, 45, 46, 47, 48, 49, 50, 51, 52, 53, 54, 55, 56, 57, 58, 59, 60, 61, 62, 63, 64, 65, 66, 67, 68, 69, 70, 71, 72, 73, 74, 75, 76, 77, 78, 79, 80, 81, 82, 83, 84, 85, 86, 87] (by decide +kernel) (by decide +kernel)
set_option maxRecDepth 20000 in
theorem gX5_best_X5_byPlay : GoodIn wsX5_best (wsV RX5 205 RX5 yX5_byPlay wsX5_byPlay) := goodIn_app (goodIn_of _ (by decide +kernel)) ggX5_best_X5_byPlay
theorem dX5_best_0 : decode cX5_best 0 = .ok (.iconst 0, 1) := by decide +kernel
theorem dX5_best_1 : decode cX5_best 1 = .ok (.istore_n 2, 1) := by decide +kernel
theorem dX5_best_2 : decode cX5_best 2 = .ok (.iconst 1, 1) := by decide +kernel
theorem dX5_best_3 : decode cX5_best 3 = .ok (.istore_n 3, 1) := by decide +kernel
theorem dX5_best_4 : decode cX5_best 4 = .ok (.iload_n 3, 1) := by decide +kernel
theorem dX5_best_5 : decode cX5_best 5 = .ok (.iconst 3, 1) := by decide +kernel
theorem dX5_best_6 : decode cX5_best 6 = .ok (.if_icmp .ge 31, 3) := by decide +kernel
theorem dX5_best_9 : decode cX5_best 9 = .ok (.aload_n 0, 1) := by decide +kernel
theorem dX5_best_10 : decode cX5_best 10 = .ok (.iload_n 3, 1) := by decide +kernel
theorem dX5_best_11 : decode cX5_best 11 = .ok (.iload_n 1, 1) := by decide +kernel
theorem dX5_best_12 : decode cX5_best 12 = .ok (.invokevirtual 205, 3) := by decide +kernel
theorem dX5_best_15 : decode cX5_best 15 = .ok (.aload_n 0, 1) := by decide +kernel
theorem dX5_best_16 : decode cX5_best 16 = .ok (.iload_n 2, 1) := by decide +kernel
theorem dX5_best_17 : decode cX5_best 17 = .ok (.iload_n 1, 1) := by decide +kernel
theorem dX5_best_18 : decode cX5_best 18 = .ok (.invokevirtual 205, 3) := by decide +kernel
theorem dX5_best_21 : decode cX5_best 21 = .ok (.lcmp, 1) := by decide +kernel
theorem dX5_best_22 : decode cX5_best 22 = .ok (.ifCond .le 7, 3) := by decide +kernel
theorem dX5_best_25 : decode cX5_best 25 = .ok (.iload_n 3, 1) := by decide +kernel
theorem dX5_best_26 : decode cX5_best 26 = .ok (.goto 4, 3) := by decide +kernel
theorem dX5_best_29 : decode cX5_best 29 = .ok (.iload_n 2, 1) := by decide +kernel
theorem dX5_best_30 : decode cX5_best 30 = .ok (.istore_n 2, 1) := by decide +kernel
theorem dX5_best_31 : decode cX5_best 31 = .ok (.iinc 3 1, 3) := by decide +kernel
theorem dX5_best_34 : decode cX5_best 34 = .ok (.goto (-30), 3) := by decide +kernel
theorem dX5_best_37 : decode cX5_best 37 = .ok (.iload_n 2, 1) := by decide +kernel
theorem dX5_best_38 : decode cX5_best 38 = .ok (.ireturn, 1) := by decide +kernel
set_option maxRecDepth 20000 in
theorem ggX5_bestRule_X5_in : GoodIn wsX5_bestRule wsX5_in := goodIn_r _ [5] (by decide +kernel) (by decide +kernel)
set_option maxRecDepth 20000 in
theorem gX5_bestRule_X5_in : GoodIn wsX5_bestRule (va_wsS RX5 46 yX5_in wsX5_in) := goodIn_app (goodIn_of _ (by decide +kernel)) ggX5_bestRule_X5_in
set_option maxRecDepth 20000 in
theorem ggX5_bestRule_X5_best : GoodIn wsX5_bestRule wsX5_best := goodIn_r _ [9, 10, 11, 12, 4, 13, 14, 15, 16, 17, 18, 19, 20, 21, 22, 23, 24, 25, 26, 27, 28, 29, 30, 31, 32, 33, 34, 35, 36, 37, 38, 39, 40, 41, 42, 43, 44, 45, 46, 47, 48, 49, 50, 51, 52, 53, 54, 55, 56, 57, 58, 59, 60, 61, 62, 63, 64, 65, 66, 67, 68, 69, 70, 71, 72, 73, 74, 75, 76, 77, 78, 79, 80, 81, 82, 87, 88, 89, 90, 91, 92, 93, 94, 95, 96, 97, 98, 99] (by decide +kernel) (by decide +kernel)
set_option maxRecDepth 20000 in
theorem gX5_bestRule_X5_best : GoodIn wsX5_bestRule (wsV RX5 209 RX5 yX5_best wsX5_best) := goodIn_app (goodIn_of _ (by decide +kernel)) ggX5_bestRule_X5_best
set_option maxRecDepth 20000 in
theorem ggX5_bestRule_X5_fails : GoodIn wsX5_bestRule wsX5_fails := goodIn_r _ [86, 1, 87, 88, 89, 90, 91, 92, 93, 94, 95, 96, 97, 98, 99] (by decide +kernel) (by decide +kernel)
set_option maxRecDepth 20000 in
theorem gX5_bestRule_X5_fails : GoodIn wsX5_bestRule (wsV RX5 53 RX5 yX5_fails wsX5_fails) := goodIn_app (goodIn_of _ (by decide +kernel)) ggX5_bestRule_X5_fails
theorem dX5_bestRule_0 : decode cX5_bestRule 0 = .ok (.aload_n 0, 1) := by decide +kernel
theorem dX5_bestRule_1 : decode cX5_bestRule 1 = .ok (.iconst 0, 1) := by decide +kernel
theorem dX5_bestRule_2 : decode cX5_bestRule 2 = .ok (.putfield 42, 3) := by decide +kernel
theorem dX5_bestRule_5 : decode cX5_bestRule 5 = .ok (.iload_n 1, 1) := by decide +kernel
theorem dX5_bestRule_6 : decode cX5_bestRule 6 = .ok (.i2l, 1) := by decide +kernel
theorem dX5_bestRule_7 : decode cX5_bestRule 7 = .ok (.iconst 1, 1) := by decide +kernel
theorem dX5_bestRule_8 : decode cX5_bestRule 8 = .ok (.bipush 99, 2) := by decide +kernel
theorem dX5_bestRule_10 : decode cX5_bestRule 10 = .ok (.invokestatic 46, 3) := by decide +kernel
theorem dX5_bestRule_13 : decode cX5_bestRule 13 = .ok (.ifCond .eq 11, 3) := by decide +kernel
theorem dX5_bestRule_16 : decode cX5_bestRule 16 = .ok (.aload_n 0, 1) := by decide +kernel
theorem dX5_bestRule_17 : decode cX5_bestRule 17 = .ok (.iload_n 1, 1) := by decide +kernel
theorem dX5_bestRule_18 : decode cX5_bestRule 18 = .ok (.invokevirtual 209, 3) := by decide +kernel
theorem dX5_bestRule_21 : decode cX5_bestRule 21 = .ok (.goto 8, 3) := by decide +kernel
theorem dX5_bestRule_24 : decode cX5_bestRule 24 = .ok (.aload_n 0, 1) := by decide +kernel
theorem dX5_bestRule_25 : decode cX5_bestRule 25 = .ok (.iconst 1, 1) := by decide +kernel
theorem dX5_bestRule_26 : decode cX5_bestRule 26 = .ok (.invokevirtual 53, 3) := by decide +kernel
theorem dX5_bestRule_29 : decode cX5_bestRule 29 = .ok (.ireturn, 1) := by decide +kernel
set_option maxRecDepth 20000 in
theorem ggX5_least_X5_tries : GoodIn wsX5_least wsX5_tries := goodIn_r _ [6, 1, 7, 52, 53, 54, 55, 56, 57, 58, 59, 60, 61, 62, 63, 64] (by decide +kernel) (by decide +kernel)
set_option maxRecDepth 20000 in
theorem gX5_least_X5_tries : GoodIn wsX5_least (wsV RX5 202 RX5 yX5_tries wsX5_tries) := goodIn_app (goodIn_of _ (by decide +kernel)) ggX5_least_X5_tries
set_option maxRecDepth 20000 in
theorem ggX5_least_X5_chosen : GoodIn wsX5_least wsX5_chosen := goodIn_r _ [11, 12, 13, 14, 15, 5, 16, 17, 18, 19, 20, 21, 22, 23, 24, 25, 26, 27, 28, 29, 30, 31, 32, 33, 34, 35, 36, 37, 38, 39, 40, 41, 42, 43, 44, 45, 46, 47, 48, 49, 50, 51, 52, 53, 54, 55, 56, 57, 58, 59, 60, 61, 62, 63, 64] (by decide +kernel) (by decide +kernel)
set_option maxRecDepth 20000 in
theorem gX5_least_X5_chosen : GoodIn wsX5_least (wsV RX5 114 RX5 yX5_chosen wsX5_chosen) := goodIn_app (goodIn_of _ (by decide +kernel)) ggX5_least_X5_chosen
theorem dX5_least_0 : decode cX5_least 0 = .ok (.aload_n 0, 1) := by decide +kernel
theorem dX5_least_1 : decode cX5_least 1 = .ok (.invokevirtual 202, 3) := by decide +kernel
theorem dX5_least_4 : decode cX5_least 4 = .ok (.aload_n 0, 1) := by decide +kernel
theorem dX5_least_5 : decode cX5_least 5 = .ok (.getfield 13, 3) := by decide +kernel
theorem dX5_least_8 : decode cX5_least 8 = .ok (.bipush 10, 2) := by decide +kernel
theorem dX5_least_10 : decode cX5_least 10 = .ok (.iconst 2, 1) := by decide +kernel
theorem dX5_least_11 : decode cX5_least 11 = .ok (.iload_n 1, 1) := by decide +kernel
theorem dX5_least_12 : decode cX5_least 12 = .ok (.imul, 1) := by decide +kernel
theorem dX5_least_13 : decode cX5_least 13 = .ok (.iadd, 1) := by decide +kernel
theorem dX5_least_14 : decode cX5_least 14 = .ok (.iload_n 2, 1) := by decide +kernel
theorem dX5_least_15 : decode cX5_least 15 = .ok (.i2l, 1) := by decide +kernel
theorem dX5_least_16 : decode cX5_least 16 = .ok (.lastore, 1) := by decide +kernel
theorem dX5_least_17 : decode cX5_least 17 = .ok (.iconst 0, 1) := by decide +kernel
theorem dX5_least_18 : decode cX5_least 18 = .ok (.istore_n 3, 1) := by decide +kernel
theorem dX5_least_19 : decode cX5_least 19 = .ok (.iload_n 3, 1) := by decide +kernel
theorem dX5_least_20 : decode cX5_least 20 = .ok (.bipush 99, 2) := by decide +kernel
theorem dX5_least_22 : decode cX5_least 22 = .ok (.if_icmp .gt 41, 3) := by decide +kernel
theorem dX5_least_25 : decode cX5_least 25 = .ok (.aload_n 0, 1) := by decide +kernel
theorem dX5_least_26 : decode cX5_least 26 = .ok (.getfield 13, 3) := by decide +kernel
theorem dX5_least_29 : decode cX5_least 29 = .ok (.bipush 18, 2) := by decide +kernel
theorem dX5_least_31 : decode cX5_least 31 = .ok (.iconst 4, 1) := by decide +kernel
theorem dX5_least_32 : decode cX5_least 32 = .ok (.iconst 4, 1) := by decide +kernel
theorem dX5_least_33 : decode cX5_least 33 = .ok (.iload_n 1, 1) := by decide +kernel
theorem dX5_least_34 : decode cX5_least 34 = .ok (.imul, 1) := by decide +kernel
theorem dX5_least_35 : decode cX5_least 35 = .ok (.iload_n 2, 1) := by decide +kernel
theorem dX5_least_36 : decode cX5_least 36 = .ok (.iadd, 1) := by decide +kernel
theorem dX5_least_37 : decode cX5_least 37 = .ok (.imul, 1) := by decide +kernel
theorem dX5_least_38 : decode cX5_least 38 = .ok (.iadd, 1) := by decide +kernel
theorem dX5_least_39 : decode cX5_least 39 = .ok (.iload_n 3, 1) := by decide +kernel
theorem dX5_least_40 : decode cX5_least 40 = .ok (.i2l, 1) := by decide +kernel
theorem dX5_least_41 : decode cX5_least 41 = .ok (.lastore, 1) := by decide +kernel
theorem dX5_least_42 : decode cX5_least 42 = .ok (.aload_n 0, 1) := by decide +kernel
theorem dX5_least_43 : decode cX5_least 43 = .ok (.aload_n 0, 1) := by decide +kernel
theorem dX5_least_44 : decode cX5_least 44 = .ok (.getfield 13, 3) := by decide +kernel
theorem dX5_least_47 : decode cX5_least 47 = .ok (.iconst 0, 1) := by decide +kernel
theorem dX5_least_48 : decode cX5_least 48 = .ok (.invokevirtual 114, 3) := by decide +kernel
theorem dX5_least_51 : decode cX5_least 51 = .ok (.iload_n 1, 1) := by decide +kernel
theorem dX5_least_52 : decode cX5_least 52 = .ok (.if_icmp .ne 5, 3) := by decide +kernel
theorem dX5_least_55 : decode cX5_least 55 = .ok (.iload_n 3, 1) := by decide +kernel
theorem dX5_least_56 : decode cX5_least 56 = .ok (.ireturn, 1) := by decide +kernel
theorem dX5_least_57 : decode cX5_least 57 = .ok (.iinc 3 1, 3) := by decide +kernel
theorem dX5_least_60 : decode cX5_least 60 = .ok (.goto (-41), 3) := by decide +kernel
theorem dX5_least_63 : decode cX5_least 63 = .ok (.iconst (-1), 1) := by decide +kernel
theorem dX5_least_64 : decode cX5_least 64 = .ok (.ireturn, 1) := by decide +kernel
set_option maxRecDepth 20000 in
theorem ggX5_giftFor_X5_isArm : GoodIn wsX5_giftFor wsX5_isArm := goodIn_r _ [5, 6, 7, 4, 8] (by decide +kernel) (by decide +kernel)
set_option maxRecDepth 20000 in
theorem gX5_giftFor_X5_isArm : GoodIn wsX5_giftFor (va_wsS RX5 120 yX5_isArm wsX5_isArm) := goodIn_app (goodIn_of _ (by decide +kernel)) ggX5_giftFor_X5_isArm
set_option maxRecDepth 20000 in
theorem ggX5_giftFor_X5_isState : GoodIn wsX5_giftFor wsX5_isState := goodIn_r _ [11, 6, 7, 4, 8] (by decide +kernel) (by decide +kernel)
set_option maxRecDepth 20000 in
theorem gX5_giftFor_X5_isState : GoodIn wsX5_giftFor (va_wsS RX5 124 yX5_isState wsX5_isState) := goodIn_app (goodIn_of _ (by decide +kernel)) ggX5_giftFor_X5_isState
set_option maxRecDepth 20000 in
theorem ggX5_giftFor_X5_least : GoodIn wsX5_giftFor wsX5_least := goodIn_r _ [15, 16, 17, 18, 19, 4, 20, 21, 22, 23, 24, 25, 26, 27, 28, 29, 30, 31, 32, 33, 34, 35, 36, 37, 38, 39, 40, 41, 42, 43, 44, 45, 46, 47, 48, 49, 50, 51, 52, 53, 54, 55, 56, 57, 58, 59, 60, 61, 62, 63, 64, 65, 70, 71, 72, 73, 74, 75, 76, 77, 78, 79, 80, 81, 82] (by decide +kernel) (by decide +kernel)
set_option maxRecDepth 20000 in
theorem gX5_giftFor_X5_least : GoodIn wsX5_giftFor (wsV RX5 212 RX5 yX5_least wsX5_least) := goodIn_app (goodIn_of _ (by decide +kernel)) ggX5_giftFor_X5_least
set_option maxRecDepth 20000 in
theorem ggX5_giftFor_X5_fails : GoodIn wsX5_giftFor wsX5_fails := goodIn_r _ [69, 1, 70, 71, 72, 73, 74, 75, 76, 77, 78, 79, 80, 81, 82] (by decide +kernel) (by decide +kernel)
set_option maxRecDepth 20000 in
theorem gX5_giftFor_X5_fails : GoodIn wsX5_giftFor (wsV RX5 53 RX5 yX5_fails wsX5_fails) := goodIn_app (goodIn_of _ (by decide +kernel)) ggX5_giftFor_X5_fails
theorem dX5_giftFor_0 : decode cX5_giftFor 0 = .ok (.aload_n 0, 1) := by decide +kernel
theorem dX5_giftFor_1 : decode cX5_giftFor 1 = .ok (.iconst 0, 1) := by decide +kernel
theorem dX5_giftFor_2 : decode cX5_giftFor 2 = .ok (.putfield 42, 3) := by decide +kernel
theorem dX5_giftFor_5 : decode cX5_giftFor 5 = .ok (.iload_n 1, 1) := by decide +kernel
theorem dX5_giftFor_6 : decode cX5_giftFor 6 = .ok (.invokestatic 120, 3) := by decide +kernel
theorem dX5_giftFor_9 : decode cX5_giftFor 9 = .ok (.ifCond .eq 19, 3) := by decide +kernel
theorem dX5_giftFor_12 : decode cX5_giftFor 12 = .ok (.iload_n 2, 1) := by decide +kernel
theorem dX5_giftFor_13 : decode cX5_giftFor 13 = .ok (.invokestatic 124, 3) := by decide +kernel
theorem dX5_giftFor_16 : decode cX5_giftFor 16 = .ok (.ifCond .eq 12, 3) := by decide +kernel
theorem dX5_giftFor_19 : decode cX5_giftFor 19 = .ok (.aload_n 0, 1) := by decide +kernel
theorem dX5_giftFor_20 : decode cX5_giftFor 20 = .ok (.iload_n 1, 1) := by decide +kernel
theorem dX5_giftFor_21 : decode cX5_giftFor 21 = .ok (.iload_n 2, 1) := by decide +kernel
theorem dX5_giftFor_22 : decode cX5_giftFor 22 = .ok (.invokevirtual 212, 3) := by decide +kernel
theorem dX5_giftFor_25 : decode cX5_giftFor 25 = .ok (.goto 8, 3) := by decide +kernel
theorem dX5_giftFor_28 : decode cX5_giftFor 28 = .ok (.aload_n 0, 1) := by decide +kernel
theorem dX5_giftFor_29 : decode cX5_giftFor 29 = .ok (.iconst 1, 1) := by decide +kernel
theorem dX5_giftFor_30 : decode cX5_giftFor 30 = .ok (.invokevirtual 53, 3) := by decide +kernel
theorem dX5_giftFor_33 : decode cX5_giftFor 33 = .ok (.ireturn, 1) := by decide +kernel
theorem dX5_even_0 : decode cX5_even 0 = .ok (.aload_n 0, 1) := by decide +kernel
theorem dX5_even_1 : decode cX5_even 1 = .ok (.getfield 7, 3) := by decide +kernel
theorem dX5_even_4 : decode cX5_even 4 = .ok (.bipush 11, 2) := by decide +kernel
theorem dX5_even_6 : decode cX5_even 6 = .ok (.laload, 1) := by decide +kernel
theorem dX5_even_7 : decode cX5_even 7 = .ok (.lstore_n 1, 1) := by decide +kernel
theorem dX5_even_8 : decode cX5_even 8 = .ok (.aload_n 0, 1) := by decide +kernel
theorem dX5_even_9 : decode cX5_even 9 = .ok (.getfield 7, 3) := by decide +kernel
theorem dX5_even_12 : decode cX5_even 12 = .ok (.bipush 11, 2) := by decide +kernel
theorem dX5_even_14 : decode cX5_even 14 = .ok (.laload, 1) := by decide +kernel
theorem dX5_even_15 : decode cX5_even 15 = .ok (.lstore_n 3, 1) := by decide +kernel
theorem dX5_even_16 : decode cX5_even 16 = .ok (.iconst 1, 1) := by decide +kernel
theorem dX5_even_17 : decode cX5_even 17 = .ok (.istore 5, 2) := by decide +kernel
theorem dX5_even_19 : decode cX5_even 19 = .ok (.iload 5, 2) := by decide +kernel
theorem dX5_even_21 : decode cX5_even 21 = .ok (.iconst 4, 1) := by decide +kernel
theorem dX5_even_22 : decode cX5_even 22 = .ok (.if_icmp .ge 53, 3) := by decide +kernel
theorem dX5_even_25 : decode cX5_even 25 = .ok (.aload_n 0, 1) := by decide +kernel
theorem dX5_even_26 : decode cX5_even 26 = .ok (.getfield 7, 3) := by decide +kernel
theorem dX5_even_29 : decode cX5_even 29 = .ok (.bipush 10, 2) := by decide +kernel
theorem dX5_even_31 : decode cX5_even 31 = .ok (.iconst 2, 1) := by decide +kernel
theorem dX5_even_32 : decode cX5_even 32 = .ok (.iload 5, 2) := by decide +kernel
theorem dX5_even_34 : decode cX5_even 34 = .ok (.imul, 1) := by decide +kernel
theorem dX5_even_35 : decode cX5_even 35 = .ok (.iadd, 1) := by decide +kernel
theorem dX5_even_36 : decode cX5_even 36 = .ok (.iconst 1, 1) := by decide +kernel
theorem dX5_even_37 : decode cX5_even 37 = .ok (.iadd, 1) := by decide +kernel
theorem dX5_even_38 : decode cX5_even 38 = .ok (.laload, 1) := by decide +kernel
theorem dX5_even_39 : decode cX5_even 39 = .ok (.lstore 6, 2) := by decide +kernel
theorem dX5_even_41 : decode cX5_even 41 = .ok (.lload 6, 2) := by decide +kernel
theorem dX5_even_43 : decode cX5_even 43 = .ok (.lload_n 1, 1) := by decide +kernel
theorem dX5_even_44 : decode cX5_even 44 = .ok (.lcmp, 1) := by decide +kernel
theorem dX5_even_45 : decode cX5_even 45 = .ok (.ifCond .ge 8, 3) := by decide +kernel
theorem dX5_even_48 : decode cX5_even 48 = .ok (.lload 6, 2) := by decide +kernel
theorem dX5_even_50 : decode cX5_even 50 = .ok (.goto 4, 3) := by decide +kernel
theorem dX5_even_53 : decode cX5_even 53 = .ok (.lload_n 1, 1) := by decide +kernel
theorem dX5_even_54 : decode cX5_even 54 = .ok (.lstore_n 1, 1) := by decide +kernel
theorem dX5_even_55 : decode cX5_even 55 = .ok (.lload 6, 2) := by decide +kernel
theorem dX5_even_57 : decode cX5_even 57 = .ok (.lload_n 3, 1) := by decide +kernel
theorem dX5_even_58 : decode cX5_even 58 = .ok (.lcmp, 1) := by decide +kernel
theorem dX5_even_59 : decode cX5_even 59 = .ok (.ifCond .le 8, 3) := by decide +kernel
theorem dX5_even_62 : decode cX5_even 62 = .ok (.lload 6, 2) := by decide +kernel
theorem dX5_even_64 : decode cX5_even 64 = .ok (.goto 4, 3) := by decide +kernel
theorem dX5_even_67 : decode cX5_even 67 = .ok (.lload_n 3, 1) := by decide +kernel
theorem dX5_even_68 : decode cX5_even 68 = .ok (.lstore_n 3, 1) := by decide +kernel
theorem dX5_even_69 : decode cX5_even 69 = .ok (.iinc 5 1, 3) := by decide +kernel
theorem dX5_even_72 : decode cX5_even 72 = .ok (.goto (-53), 3) := by decide +kernel
theorem dX5_even_75 : decode cX5_even 75 = .ok (.lload_n 3, 1) := by decide +kernel
theorem dX5_even_76 : decode cX5_even 76 = .ok (.lconst 0, 1) := by decide +kernel
theorem dX5_even_77 : decode cX5_even 77 = .ok (.lcmp, 1) := by decide +kernel
theorem dX5_even_78 : decode cX5_even 78 = .ok (.ifCond .ne 7, 3) := by decide +kernel
theorem dX5_even_81 : decode cX5_even 81 = .ok (.dconst 1, 1) := by decide +kernel
theorem dX5_even_82 : decode cX5_even 82 = .ok (.goto 8, 3) := by decide +kernel
theorem dX5_even_85 : decode cX5_even 85 = .ok (.lload_n 1, 1) := by decide +kernel
theorem dX5_even_86 : decode cX5_even 86 = .ok (.l2d, 1) := by decide +kernel
theorem dX5_even_87 : decode cX5_even 87 = .ok (.lload_n 3, 1) := by decide +kernel
theorem dX5_even_88 : decode cX5_even 88 = .ok (.l2d, 1) := by decide +kernel
theorem dX5_even_89 : decode cX5_even 89 = .ok (.ddiv, 1) := by decide +kernel
theorem dX5_even_90 : decode cX5_even 90 = .ok (.dreturn, 1) := by decide +kernel
set_option maxRecDepth 20000 in
theorem ggX5_evenness_X5_even : GoodIn wsX5_evenness wsX5_even := goodIn_r _ [6, 7, 8, 9, 10, 11, 12, 13, 14, 15, 16, 17, 18, 19, 20] (by decide +kernel) (by decide +kernel)
set_option maxRecDepth 20000 in
theorem gX5_evenness_X5_even : GoodIn wsX5_evenness (wsV RX5 215 RX5 yX5_even wsX5_even) := goodIn_app (goodIn_of _ (by decide +kernel)) ggX5_evenness_X5_even
theorem dX5_evenness_0 : decode cX5_evenness 0 = .ok (.aload_n 0, 1) := by decide +kernel
theorem dX5_evenness_1 : decode cX5_evenness 1 = .ok (.iconst 0, 1) := by decide +kernel
theorem dX5_evenness_2 : decode cX5_evenness 2 = .ok (.putfield 42, 3) := by decide +kernel
theorem dX5_evenness_5 : decode cX5_evenness 5 = .ok (.aload_n 0, 1) := by decide +kernel
theorem dX5_evenness_6 : decode cX5_evenness 6 = .ok (.invokevirtual 215, 3) := by decide +kernel
theorem dX5_evenness_9 : decode cX5_evenness 9 = .ok (.dreturn, 1) := by decide +kernel
set_option maxRecDepth 20000 in
theorem ggX5_digest_X5_counted : GoodIn wsX5_digest wsX5_counted := goodIn_r _ [11, 4, 12, 129, 130, 131, 132, 133, 134, 135, 136, 137, 138, 139, 140, 141] (by decide +kernel) (by decide +kernel)
set_option maxRecDepth 20000 in
theorem gX5_digest_X5_counted : GoodIn wsX5_digest (wsV RX5 199 RX5 yX5_counted wsX5_counted) := goodIn_app (goodIn_of _ (by decide +kernel)) ggX5_digest_X5_counted
set_option maxRecDepth 20000 in
theorem ggX5_digest_X5_ofArm : GoodIn wsX5_digest wsX5_ofArm := goodIn_r _ [16, 4, 17, 18, 19, 10, 20, 21, 22, 23, 24, 25, 26, 27, 28, 29, 30, 31, 32, 33, 34, 35, 36, 37, 38, 39, 40, 41, 42, 43, 44, 45, 46, 47, 48, 49, 50, 51, 52, 53, 54, 55, 129, 130, 131, 132, 133, 134, 135, 136, 137, 138, 139, 140, 141] (by decide +kernel) (by decide +kernel)
set_option maxRecDepth 20000 in
theorem gX5_digest_X5_ofArm : GoodIn wsX5_digest (wsV RX5 196 RX5 yX5_ofArm wsX5_ofArm) := goodIn_app (goodIn_of _ (by decide +kernel)) ggX5_digest_X5_ofArm
set_option maxRecDepth 20000 in
theorem ggX5_digest_X5_ofState : GoodIn wsX5_digest wsX5_ofState := goodIn_r _ [59, 4, 37, 38, 10, 39, 60, 61, 62, 63, 129, 130, 131, 132, 133, 134, 135, 136, 137, 138, 139, 140, 141] (by decide +kernel) (by decide +kernel)
set_option maxRecDepth 20000 in
theorem gX5_digest_X5_ofState : GoodIn wsX5_digest (wsV RX5 186 RX5 yX5_ofState wsX5_ofState) := goodIn_app (goodIn_of _ (by decide +kernel)) ggX5_digest_X5_ofState
set_option maxRecDepth 20000 in
theorem ggX5_digest_X5_indexOf : GoodIn wsX5_digest wsX5_indexOf := goodIn_r _ [24, 25, 26, 27, 10, 28, 29, 30, 31, 32, 33, 34, 35, 36, 37, 38, 39, 40, 41, 42, 43, 44, 45, 46, 47, 48, 129, 130, 131, 132, 133, 134, 135, 136, 137, 138, 139, 140, 141] (by decide +kernel) (by decide +kernel)
set_option maxRecDepth 20000 in
theorem gX5_digest_X5_indexOf : GoodIn wsX5_digest (wsV RX5 86 RX5 yX5_indexOf wsX5_indexOf) := goodIn_app (goodIn_of _ (by decide +kernel)) ggX5_digest_X5_indexOf
set_option maxRecDepth 20000 in
theorem ggX5_digest_X5_chosen : GoodIn wsX5_digest wsX5_chosen := goodIn_r _ [67, 68, 69, 70, 71, 10, 72, 73, 36, 74, 75, 76, 53, 54, 55, 21, 22, 23, 24, 25, 26, 27, 28, 29, 30, 31, 32, 33, 34, 35, 37, 38, 39, 40, 41, 42, 43, 44, 45, 46, 47, 48, 129, 130, 131, 132, 133, 134, 135, 136, 137, 138, 139, 140, 141] (by decide +kernel) (by decide +kernel)
set_option maxRecDepth 20000 in
theorem gX5_digest_X5_chosen : GoodIn wsX5_digest (wsV RX5 114 RX5 yX5_chosen wsX5_chosen) := goodIn_app (goodIn_of _ (by decide +kernel)) ggX5_digest_X5_chosen
set_option maxRecDepth 20000 in
theorem ggX5_digest_X5_byPlay : GoodIn wsX5_digest wsX5_byPlay := goodIn_r _ [80, 81, 4, 82, 83, 84, 10, 85, 86, 87, 88, 89, 64, 65, 66, 67, 68, 69, 70, 71, 72, 73, 36, 74, 75, 76, 53, 54, 55, 21, 22, 23, 24, 25, 26, 27, 28, 29, 30, 31, 32, 33, 34, 35, 37, 38, 39, 40, 41, 42, 43, 44, 45, 46, 47, 48, 90, 91, 92, 93, 94, 95, 96, 97, 98, 99, 100, 101, 102, 103, 104, 129, 130, 131, 132, 133, 134, 135, 136, 137, 138, 139, 140, 141] (by decide +kernel) (by decide +kernel)
set_option maxRecDepth 20000 in
theorem gX5_digest_X5_byPlay : GoodIn wsX5_digest (wsV RX5 205 RX5 yX5_byPlay wsX5_byPlay) := goodIn_app (goodIn_of _ (by decide +kernel)) ggX5_digest_X5_byPlay
set_option maxRecDepth 20000 in
theorem ggX5_digest_X5_best : GoodIn wsX5_digest wsX5_best := goodIn_r _ [108, 77, 78, 79, 10, 80, 81, 4, 82, 83, 84, 85, 86, 87, 88, 89, 64, 65, 66, 67, 68, 69, 70, 71, 72, 73, 36, 74, 75, 76, 53, 54, 55, 21, 22, 23, 24, 25, 26, 27, 28, 29, 30, 31, 32, 33, 34, 35, 37, 38, 39, 40, 41, 42, 43, 44, 45, 46, 47, 48, 90, 91, 92, 93, 94, 95, 96, 97, 98, 99, 100, 101, 102, 103, 104, 129, 130, 131, 132, 133, 134, 135, 136, 137, 138, 139, 140, 141] (by decide +kernel) (by decide +kernel)
set_option maxRecDepth 20000 in
theorem gX5_digest_X5_best : GoodIn wsX5_digest (wsV RX5 209 RX5 yX5_best wsX5_best) := goodIn_app (goodIn_of _ (by decide +kernel)) ggX5_digest_X5_best
set_option maxRecDepth 20000 in
theorem ggX5_digest_X5_least : GoodIn wsX5_digest wsX5_least := goodIn_r _ [112, 81, 82, 83, 84, 10, 85, 4, 64, 65, 66, 67, 68, 69, 70, 71, 72, 73, 36, 74, 75, 76, 53, 54, 55, 21, 22, 23, 24, 25, 26, 27, 28, 29, 30, 31, 32, 33, 34, 35, 37, 38, 39, 40, 41, 42, 43, 44, 45, 46, 47, 48, 129, 130, 131, 132, 133, 134, 135, 136, 137, 138, 139, 140, 141] (by decide +kernel) (by decide +kernel)
set_option maxRecDepth 20000 in
theorem gX5_digest_X5_least : GoodIn wsX5_digest (wsV RX5 212 RX5 yX5_least wsX5_least) := goodIn_app (goodIn_of _ (by decide +kernel)) ggX5_digest_X5_least
set_option maxRecDepth 20000 in
theorem ggX5_digest_X5_even : GoodIn wsX5_digest wsX5_even := goodIn_r _ [116, 4, 129, 130, 131, 132, 133, 134, 135, 136, 137, 138, 139, 140, 141] (by decide +kernel) (by decide +kernel)
set_option maxRecDepth 20000 in
theorem gX5_digest_X5_even : GoodIn wsX5_digest (wsV RX5 215 RX5 yX5_even wsX5_even) := goodIn_app (goodIn_of _ (by decide +kernel)) ggX5_digest_X5_even
set_option maxRecDepth 20000 in
theorem ggX5_digest_Jxe99ae_doubleToLongBits_ccdee : GoodIn wsX5_digest wsJxe99ae_doubleToLongBits_ccdee := goodIn_r _ [120, 121, 122, 123, 124, 125, 126, 127, 119, 128] (by decide +kernel) (by decide +kernel)
set_option maxRecDepth 20000 in
theorem gX5_digest_Jxe99ae_doubleToLongBits_ccdee : GoodIn wsX5_digest (va_wsS RX5 223 yJxe99ae_doubleToLongBits_ccdee wsJxe99ae_doubleToLongBits_ccdee) := goodIn_app (goodIn_of _ (by decide +kernel)) ggX5_digest_Jxe99ae_doubleToLongBits_ccdee
theorem dX5_digest_0 : decode cX5_digest 0 = .ok (.aload_n 0, 1) := by decide +kernel
theorem dX5_digest_1 : decode cX5_digest 1 = .ok (.iconst 0, 1) := by decide +kernel
theorem dX5_digest_2 : decode cX5_digest 2 = .ok (.putfield 42, 3) := by decide +kernel
theorem dX5_digest_5 : decode cX5_digest 5 = .ok (.ldc2_w 219, 3) := by decide +kernel
theorem dX5_digest_8 : decode cX5_digest 8 = .ok (.lstore_n 1, 1) := by decide +kernel
theorem dX5_digest_9 : decode cX5_digest 9 = .ok (.iconst 0, 1) := by decide +kernel
theorem dX5_digest_10 : decode cX5_digest 10 = .ok (.istore_n 3, 1) := by decide +kernel
theorem dX5_digest_11 : decode cX5_digest 11 = .ok (.iload_n 3, 1) := by decide +kernel
theorem dX5_digest_12 : decode cX5_digest 12 = .ok (.iconst 4, 1) := by decide +kernel
theorem dX5_digest_13 : decode cX5_digest 13 = .ok (.if_icmp .ge 22, 3) := by decide +kernel
theorem dX5_digest_16 : decode cX5_digest 16 = .ok (.ldc2_w 221, 3) := by decide +kernel
theorem dX5_digest_19 : decode cX5_digest 19 = .ok (.lload_n 1, 1) := by decide +kernel
theorem dX5_digest_20 : decode cX5_digest 20 = .ok (.lmul, 1) := by decide +kernel
theorem dX5_digest_21 : decode cX5_digest 21 = .ok (.aload_n 0, 1) := by decide +kernel
theorem dX5_digest_22 : decode cX5_digest 22 = .ok (.iload_n 3, 1) := by decide +kernel
theorem dX5_digest_23 : decode cX5_digest 23 = .ok (.invokevirtual 199, 3) := by decide +kernel
theorem dX5_digest_26 : decode cX5_digest 26 = .ok (.i2l, 1) := by decide +kernel
theorem dX5_digest_27 : decode cX5_digest 27 = .ok (.ladd, 1) := by decide +kernel
theorem dX5_digest_28 : decode cX5_digest 28 = .ok (.lstore_n 1, 1) := by decide +kernel
theorem dX5_digest_29 : decode cX5_digest 29 = .ok (.iinc 3 1, 3) := by decide +kernel
theorem dX5_digest_32 : decode cX5_digest 32 = .ok (.goto (-21), 3) := by decide +kernel
theorem dX5_digest_35 : decode cX5_digest 35 = .ok (.iconst 0, 1) := by decide +kernel
theorem dX5_digest_36 : decode cX5_digest 36 = .ok (.istore_n 3, 1) := by decide +kernel
theorem dX5_digest_37 : decode cX5_digest 37 = .ok (.iload_n 3, 1) := by decide +kernel
theorem dX5_digest_38 : decode cX5_digest 38 = .ok (.iconst 3, 1) := by decide +kernel
theorem dX5_digest_39 : decode cX5_digest 39 = .ok (.if_icmp .ge 25, 3) := by decide +kernel
theorem dX5_digest_42 : decode cX5_digest 42 = .ok (.ldc2_w 221, 3) := by decide +kernel
theorem dX5_digest_45 : decode cX5_digest 45 = .ok (.lload_n 1, 1) := by decide +kernel
theorem dX5_digest_46 : decode cX5_digest 46 = .ok (.lmul, 1) := by decide +kernel
theorem dX5_digest_47 : decode cX5_digest 47 = .ok (.aload_n 0, 1) := by decide +kernel
theorem dX5_digest_48 : decode cX5_digest 48 = .ok (.getfield 7, 3) := by decide +kernel
theorem dX5_digest_51 : decode cX5_digest 51 = .ok (.bipush 7, 2) := by decide +kernel
theorem dX5_digest_53 : decode cX5_digest 53 = .ok (.iload_n 3, 1) := by decide +kernel
theorem dX5_digest_54 : decode cX5_digest 54 = .ok (.iadd, 1) := by decide +kernel
theorem dX5_digest_55 : decode cX5_digest 55 = .ok (.laload, 1) := by decide +kernel
theorem dX5_digest_56 : decode cX5_digest 56 = .ok (.ladd, 1) := by decide +kernel
theorem dX5_digest_57 : decode cX5_digest 57 = .ok (.lstore_n 1, 1) := by decide +kernel
theorem dX5_digest_58 : decode cX5_digest 58 = .ok (.iinc 3 1, 3) := by decide +kernel
theorem dX5_digest_61 : decode cX5_digest 61 = .ok (.goto (-24), 3) := by decide +kernel
theorem dX5_digest_64 : decode cX5_digest 64 = .ok (.iconst 0, 1) := by decide +kernel
theorem dX5_digest_65 : decode cX5_digest 65 = .ok (.istore_n 3, 1) := by decide +kernel
theorem dX5_digest_66 : decode cX5_digest 66 = .ok (.iload_n 3, 1) := by decide +kernel
theorem dX5_digest_67 : decode cX5_digest 67 = .ok (.iconst 4, 1) := by decide +kernel
theorem dX5_digest_68 : decode cX5_digest 68 = .ok (.if_icmp .ge 22, 3) := by decide +kernel
theorem dX5_digest_71 : decode cX5_digest 71 = .ok (.ldc2_w 221, 3) := by decide +kernel
theorem dX5_digest_74 : decode cX5_digest 74 = .ok (.lload_n 1, 1) := by decide +kernel
theorem dX5_digest_75 : decode cX5_digest 75 = .ok (.lmul, 1) := by decide +kernel
theorem dX5_digest_76 : decode cX5_digest 76 = .ok (.aload_n 0, 1) := by decide +kernel
theorem dX5_digest_77 : decode cX5_digest 77 = .ok (.getfield 7, 3) := by decide +kernel
theorem dX5_digest_80 : decode cX5_digest 80 = .ok (.iload_n 3, 1) := by decide +kernel
theorem dX5_digest_81 : decode cX5_digest 81 = .ok (.laload, 1) := by decide +kernel
theorem dX5_digest_82 : decode cX5_digest 82 = .ok (.ladd, 1) := by decide +kernel
theorem dX5_digest_83 : decode cX5_digest 83 = .ok (.lstore_n 1, 1) := by decide +kernel
theorem dX5_digest_84 : decode cX5_digest 84 = .ok (.iinc 3 1, 3) := by decide +kernel
theorem dX5_digest_87 : decode cX5_digest 87 = .ok (.goto (-21), 3) := by decide +kernel
theorem dX5_digest_90 : decode cX5_digest 90 = .ok (.iconst 0, 1) := by decide +kernel
theorem dX5_digest_91 : decode cX5_digest 91 = .ok (.istore_n 3, 1) := by decide +kernel
theorem dX5_digest_92 : decode cX5_digest 92 = .ok (.iload_n 3, 1) := by decide +kernel
theorem dX5_digest_93 : decode cX5_digest 93 = .ok (.iconst 4, 1) := by decide +kernel
theorem dX5_digest_94 : decode cX5_digest 94 = .ok (.if_icmp .ge 104, 3) := by decide +kernel
theorem dX5_digest_97 : decode cX5_digest 97 = .ok (.iconst 0, 1) := by decide +kernel
theorem dX5_digest_98 : decode cX5_digest 98 = .ok (.istore 4, 2) := by decide +kernel
theorem dX5_digest_100 : decode cX5_digest 100 = .ok (.iload 4, 2) := by decide +kernel
theorem dX5_digest_102 : decode cX5_digest 102 = .ok (.iconst 4, 1) := by decide +kernel
theorem dX5_digest_103 : decode cX5_digest 103 = .ok (.if_icmp .ge 24, 3) := by decide +kernel
theorem dX5_digest_106 : decode cX5_digest 106 = .ok (.ldc2_w 221, 3) := by decide +kernel
theorem dX5_digest_109 : decode cX5_digest 109 = .ok (.lload_n 1, 1) := by decide +kernel
theorem dX5_digest_110 : decode cX5_digest 110 = .ok (.lmul, 1) := by decide +kernel
theorem dX5_digest_111 : decode cX5_digest 111 = .ok (.aload_n 0, 1) := by decide +kernel
theorem dX5_digest_112 : decode cX5_digest 112 = .ok (.iload_n 3, 1) := by decide +kernel
theorem dX5_digest_113 : decode cX5_digest 113 = .ok (.iload 4, 2) := by decide +kernel
theorem dX5_digest_115 : decode cX5_digest 115 = .ok (.invokevirtual 196, 3) := by decide +kernel
theorem dX5_digest_118 : decode cX5_digest 118 = .ok (.i2l, 1) := by decide +kernel
theorem dX5_digest_119 : decode cX5_digest 119 = .ok (.ladd, 1) := by decide +kernel
theorem dX5_digest_120 : decode cX5_digest 120 = .ok (.lstore_n 1, 1) := by decide +kernel
theorem dX5_digest_121 : decode cX5_digest 121 = .ok (.iinc 4 1, 3) := by decide +kernel
theorem dX5_digest_124 : decode cX5_digest 124 = .ok (.goto (-24), 3) := by decide +kernel
theorem dX5_digest_127 : decode cX5_digest 127 = .ok (.iconst 0, 1) := by decide +kernel
theorem dX5_digest_128 : decode cX5_digest 128 = .ok (.istore 4, 2) := by decide +kernel
theorem dX5_digest_130 : decode cX5_digest 130 = .ok (.iload 4, 2) := by decide +kernel
theorem dX5_digest_132 : decode cX5_digest 132 = .ok (.iconst 4, 1) := by decide +kernel
theorem dX5_digest_133 : decode cX5_digest 133 = .ok (.if_icmp .ge 59, 3) := by decide +kernel
theorem dX5_digest_136 : decode cX5_digest 136 = .ok (.iconst 0, 1) := by decide +kernel
theorem dX5_digest_137 : decode cX5_digest 137 = .ok (.istore 5, 2) := by decide +kernel
theorem dX5_digest_139 : decode cX5_digest 139 = .ok (.iload 5, 2) := by decide +kernel
theorem dX5_digest_141 : decode cX5_digest 141 = .ok (.iconst 5, 1) := by decide +kernel
theorem dX5_digest_142 : decode cX5_digest 142 = .ok (.if_icmp .ge 26, 3) := by decide +kernel
theorem dX5_digest_145 : decode cX5_digest 145 = .ok (.ldc2_w 221, 3) := by decide +kernel
theorem dX5_digest_148 : decode cX5_digest 148 = .ok (.lload_n 1, 1) := by decide +kernel
theorem dX5_digest_149 : decode cX5_digest 149 = .ok (.lmul, 1) := by decide +kernel
theorem dX5_digest_150 : decode cX5_digest 150 = .ok (.aload_n 0, 1) := by decide +kernel
theorem dX5_digest_151 : decode cX5_digest 151 = .ok (.iload_n 3, 1) := by decide +kernel
theorem dX5_digest_152 : decode cX5_digest 152 = .ok (.iload 4, 2) := by decide +kernel
theorem dX5_digest_154 : decode cX5_digest 154 = .ok (.iload 5, 2) := by decide +kernel
theorem dX5_digest_156 : decode cX5_digest 156 = .ok (.invokevirtual 186, 3) := by decide +kernel
theorem dX5_digest_159 : decode cX5_digest 159 = .ok (.i2l, 1) := by decide +kernel
theorem dX5_digest_160 : decode cX5_digest 160 = .ok (.ladd, 1) := by decide +kernel
theorem dX5_digest_161 : decode cX5_digest 161 = .ok (.lstore_n 1, 1) := by decide +kernel
theorem dX5_digest_162 : decode cX5_digest 162 = .ok (.iinc 5 1, 3) := by decide +kernel
theorem dX5_digest_165 : decode cX5_digest 165 = .ok (.goto (-26), 3) := by decide +kernel
theorem dX5_digest_168 : decode cX5_digest 168 = .ok (.ldc2_w 221, 3) := by decide +kernel
theorem dX5_digest_171 : decode cX5_digest 171 = .ok (.lload_n 1, 1) := by decide +kernel
theorem dX5_digest_172 : decode cX5_digest 172 = .ok (.lmul, 1) := by decide +kernel
theorem dX5_digest_173 : decode cX5_digest 173 = .ok (.aload_n 0, 1) := by decide +kernel
theorem dX5_digest_174 : decode cX5_digest 174 = .ok (.aload_n 0, 1) := by decide +kernel
theorem dX5_digest_175 : decode cX5_digest 175 = .ok (.getfield 7, 3) := by decide +kernel
theorem dX5_digest_178 : decode cX5_digest 178 = .ok (.iload_n 3, 1) := by decide +kernel
theorem dX5_digest_179 : decode cX5_digest 179 = .ok (.iload 4, 2) := by decide +kernel
theorem dX5_digest_181 : decode cX5_digest 181 = .ok (.invokevirtual 86, 3) := by decide +kernel
theorem dX5_digest_184 : decode cX5_digest 184 = .ok (.ladd, 1) := by decide +kernel
theorem dX5_digest_185 : decode cX5_digest 185 = .ok (.lstore_n 1, 1) := by decide +kernel
theorem dX5_digest_186 : decode cX5_digest 186 = .ok (.iinc 4 1, 3) := by decide +kernel
theorem dX5_digest_189 : decode cX5_digest 189 = .ok (.goto (-59), 3) := by decide +kernel
theorem dX5_digest_192 : decode cX5_digest 192 = .ok (.iinc 3 1, 3) := by decide +kernel
theorem dX5_digest_195 : decode cX5_digest 195 = .ok (.goto (-103), 3) := by decide +kernel
theorem dX5_digest_198 : decode cX5_digest 198 = .ok (.iconst 0, 1) := by decide +kernel
theorem dX5_digest_199 : decode cX5_digest 199 = .ok (.istore_n 3, 1) := by decide +kernel
theorem dX5_digest_200 : decode cX5_digest 200 = .ok (.iload_n 3, 1) := by decide +kernel
theorem dX5_digest_201 : decode cX5_digest 201 = .ok (.iconst 3, 1) := by decide +kernel
theorem dX5_digest_202 : decode cX5_digest 202 = .ok (.if_icmp .ge 37, 3) := by decide +kernel
theorem dX5_digest_205 : decode cX5_digest 205 = .ok (.ldc2_w 221, 3) := by decide +kernel
theorem dX5_digest_208 : decode cX5_digest 208 = .ok (.ldc2_w 221, 3) := by decide +kernel
theorem dX5_digest_211 : decode cX5_digest 211 = .ok (.lload_n 1, 1) := by decide +kernel
theorem dX5_digest_212 : decode cX5_digest 212 = .ok (.lmul, 1) := by decide +kernel
theorem dX5_digest_213 : decode cX5_digest 213 = .ok (.aload_n 0, 1) := by decide +kernel
theorem dX5_digest_214 : decode cX5_digest 214 = .ok (.aload_n 0, 1) := by decide +kernel
theorem dX5_digest_215 : decode cX5_digest 215 = .ok (.getfield 7, 3) := by decide +kernel
theorem dX5_digest_218 : decode cX5_digest 218 = .ok (.iload_n 3, 1) := by decide +kernel
theorem dX5_digest_219 : decode cX5_digest 219 = .ok (.invokevirtual 114, 3) := by decide +kernel
theorem dX5_digest_222 : decode cX5_digest 222 = .ok (.i2l, 1) := by decide +kernel
theorem dX5_digest_223 : decode cX5_digest 223 = .ok (.ladd, 1) := by decide +kernel
theorem dX5_digest_224 : decode cX5_digest 224 = .ok (.lmul, 1) := by decide +kernel
theorem dX5_digest_225 : decode cX5_digest 225 = .ok (.aload_n 0, 1) := by decide +kernel
theorem dX5_digest_226 : decode cX5_digest 226 = .ok (.iload_n 3, 1) := by decide +kernel
theorem dX5_digest_227 : decode cX5_digest 227 = .ok (.iconst 5, 1) := by decide +kernel
theorem dX5_digest_228 : decode cX5_digest 228 = .ok (.invokevirtual 205, 3) := by decide +kernel
theorem dX5_digest_231 : decode cX5_digest 231 = .ok (.ladd, 1) := by decide +kernel
theorem dX5_digest_232 : decode cX5_digest 232 = .ok (.lstore_n 1, 1) := by decide +kernel
theorem dX5_digest_233 : decode cX5_digest 233 = .ok (.iinc 3 1, 3) := by decide +kernel
theorem dX5_digest_236 : decode cX5_digest 236 = .ok (.goto (-36), 3) := by decide +kernel
theorem dX5_digest_239 : decode cX5_digest 239 = .ok (.ldc2_w 221, 3) := by decide +kernel
theorem dX5_digest_242 : decode cX5_digest 242 = .ok (.ldc2_w 221, 3) := by decide +kernel
theorem dX5_digest_245 : decode cX5_digest 245 = .ok (.lload_n 1, 1) := by decide +kernel
theorem dX5_digest_246 : decode cX5_digest 246 = .ok (.lmul, 1) := by decide +kernel
theorem dX5_digest_247 : decode cX5_digest 247 = .ok (.aload_n 0, 1) := by decide +kernel
theorem dX5_digest_248 : decode cX5_digest 248 = .ok (.bipush 8, 2) := by decide +kernel
theorem dX5_digest_250 : decode cX5_digest 250 = .ok (.invokevirtual 209, 3) := by decide +kernel
theorem dX5_digest_253 : decode cX5_digest 253 = .ok (.i2l, 1) := by decide +kernel
theorem dX5_digest_254 : decode cX5_digest 254 = .ok (.ladd, 1) := by decide +kernel
theorem dX5_digest_255 : decode cX5_digest 255 = .ok (.lmul, 1) := by decide +kernel
theorem dX5_digest_256 : decode cX5_digest 256 = .ok (.aload_n 0, 1) := by decide +kernel
theorem dX5_digest_257 : decode cX5_digest 257 = .ok (.iconst 1, 1) := by decide +kernel
theorem dX5_digest_258 : decode cX5_digest 258 = .ok (.iconst 0, 1) := by decide +kernel
theorem dX5_digest_259 : decode cX5_digest 259 = .ok (.invokevirtual 212, 3) := by decide +kernel
theorem dX5_digest_262 : decode cX5_digest 262 = .ok (.i2l, 1) := by decide +kernel
theorem dX5_digest_263 : decode cX5_digest 263 = .ok (.ladd, 1) := by decide +kernel
theorem dX5_digest_264 : decode cX5_digest 264 = .ok (.lstore_n 1, 1) := by decide +kernel
theorem dX5_digest_265 : decode cX5_digest 265 = .ok (.ldc2_w 221, 3) := by decide +kernel
theorem dX5_digest_268 : decode cX5_digest 268 = .ok (.ldc2_w 221, 3) := by decide +kernel
theorem dX5_digest_271 : decode cX5_digest 271 = .ok (.lload_n 1, 1) := by decide +kernel
theorem dX5_digest_272 : decode cX5_digest 272 = .ok (.lmul, 1) := by decide +kernel
theorem dX5_digest_273 : decode cX5_digest 273 = .ok (.aload_n 0, 1) := by decide +kernel
theorem dX5_digest_274 : decode cX5_digest 274 = .ok (.invokevirtual 215, 3) := by decide +kernel
theorem dX5_digest_277 : decode cX5_digest 277 = .ok (.invokestatic 223, 3) := by decide +kernel
theorem dX5_digest_280 : decode cX5_digest 280 = .ok (.ladd, 1) := by decide +kernel
theorem dX5_digest_281 : decode cX5_digest 281 = .ok (.lmul, 1) := by decide +kernel
theorem dX5_digest_282 : decode cX5_digest 282 = .ok (.aload_n 0, 1) := by decide +kernel
theorem dX5_digest_283 : decode cX5_digest 283 = .ok (.getfield 150, 3) := by decide +kernel
theorem dX5_digest_286 : decode cX5_digest 286 = .ok (.i2l, 1) := by decide +kernel
theorem dX5_digest_287 : decode cX5_digest 287 = .ok (.ladd, 1) := by decide +kernel
theorem dX5_digest_288 : decode cX5_digest 288 = .ok (.lstore_n 1, 1) := by decide +kernel
theorem dX5_digest_289 : decode cX5_digest 289 = .ok (.iconst 0, 1) := by decide +kernel
theorem dX5_digest_290 : decode cX5_digest 290 = .ok (.istore_n 3, 1) := by decide +kernel
theorem dX5_digest_291 : decode cX5_digest 291 = .ok (.iload_n 3, 1) := by decide +kernel
theorem dX5_digest_292 : decode cX5_digest 292 = .ok (.aload_n 0, 1) := by decide +kernel
theorem dX5_digest_293 : decode cX5_digest 293 = .ok (.getfield 150, 3) := by decide +kernel
theorem dX5_digest_296 : decode cX5_digest 296 = .ok (.if_icmp .ge 23, 3) := by decide +kernel
theorem dX5_digest_299 : decode cX5_digest 299 = .ok (.ldc2_w 221, 3) := by decide +kernel
theorem dX5_digest_302 : decode cX5_digest 302 = .ok (.lload_n 1, 1) := by decide +kernel
theorem dX5_digest_303 : decode cX5_digest 303 = .ok (.lmul, 1) := by decide +kernel
theorem dX5_digest_304 : decode cX5_digest 304 = .ok (.aload_n 0, 1) := by decide +kernel
theorem dX5_digest_305 : decode cX5_digest 305 = .ok (.getfield 19, 3) := by decide +kernel
theorem dX5_digest_308 : decode cX5_digest 308 = .ok (.iload_n 3, 1) := by decide +kernel
theorem dX5_digest_309 : decode cX5_digest 309 = .ok (.iaload, 1) := by decide +kernel
theorem dX5_digest_310 : decode cX5_digest 310 = .ok (.i2l, 1) := by decide +kernel
theorem dX5_digest_311 : decode cX5_digest 311 = .ok (.ladd, 1) := by decide +kernel
theorem dX5_digest_312 : decode cX5_digest 312 = .ok (.lstore_n 1, 1) := by decide +kernel
theorem dX5_digest_313 : decode cX5_digest 313 = .ok (.iinc 3 1, 3) := by decide +kernel
theorem dX5_digest_316 : decode cX5_digest 316 = .ok (.goto (-25), 3) := by decide +kernel
theorem dX5_digest_319 : decode cX5_digest 319 = .ok (.lload_n 1, 1) := by decide +kernel
theorem dX5_digest_320 : decode cX5_digest 320 = .ok (.lreturn, 1) := by decide +kernel
