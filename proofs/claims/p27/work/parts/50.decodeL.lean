theorem dL_low_0 : decode cL_low 0 = .ok (.iload_n 0, 1) := by decide +kernel
theorem dL_low_1 : decode cL_low 1 = .ok (.ldc 7, 2) := by decide +kernel
theorem dL_low_3 : decode cL_low 3 = .ok (.iand, 1) := by decide +kernel
theorem dL_low_4 : decode cL_low 4 = .ok (.iload_n 1, 1) := by decide +kernel
theorem dL_low_5 : decode cL_low 5 = .ok (.irem, 1) := by decide +kernel
theorem dL_low_6 : decode cL_low 6 = .ok (.ireturn, 1) := by decide +kernel
theorem dL_cell_0 : decode cL_cell 0 = .ok (.iload_n 1, 1) := by decide +kernel
theorem dL_cell_1 : decode cL_cell 1 = .ok (.aload_n 0, 1) := by decide +kernel
theorem dL_cell_2 : decode cL_cell 2 = .ok (.arraylength, 1) := by decide +kernel
theorem dL_cell_3 : decode cL_cell 3 = .ok (.if_icmp .ge 9, 3) := by decide +kernel
theorem dL_cell_6 : decode cL_cell 6 = .ok (.aload_n 0, 1) := by decide +kernel
theorem dL_cell_7 : decode cL_cell 7 = .ok (.iload_n 1, 1) := by decide +kernel
theorem dL_cell_8 : decode cL_cell 8 = .ok (.iaload, 1) := by decide +kernel
theorem dL_cell_9 : decode cL_cell 9 = .ok (.goto 11, 3) := by decide +kernel
theorem dL_cell_12 : decode cL_cell 12 = .ok (.ldc 8, 2) := by decide +kernel
theorem dL_cell_14 : decode cL_cell 14 = .ok (.iload_n 1, 1) := by decide +kernel
theorem dL_cell_15 : decode cL_cell 15 = .ok (.imul, 1) := by decide +kernel
theorem dL_cell_16 : decode cL_cell 16 = .ok (.sipush 977, 3) := by decide +kernel
theorem dL_cell_19 : decode cL_cell 19 = .ok (.iadd, 1) := by decide +kernel
theorem dL_cell_20 : decode cL_cell 20 = .ok (.ireturn, 1) := by decide +kernel
set_option maxRecDepth 20000 in
theorem ggL_undo_X4_undo : GoodIn wsL_undo wsX4_undo := goodIn_ca (goodIn_r _ [6, 7, 8, 9, 10, 11, 12, 13, 14, 15, 16, 17, 18, 19, 20, 21, 22, 23, 24, 25, 26, 27, 28, 29, 30, 31, 32, 33, 34, 35, 36, 37, 38, 39, 40, 41, 42, 43, 44, 45, 46, 47, 48, 49, 50, 51, 52, 53, 54, 55, 56, 57, 58, 59, 60, 61, 62, 63, 64, 65, 66, 67, 68, 69, 70, 71, 72, 73, 74] (by decide +kernel) (by decide +kernel)) (goodIn_sub (fun _ h => List.mem_cons_of_mem _ (List.mem_append_right _ h)) (by decide +kernel))
set_option maxRecDepth 20000 in
theorem gL_undo_X4_undo : GoodIn wsL_undo (wsV RL 9 RX4 yX4_undo wsX4_undo) := goodIn_app (goodIn_of _ (by decide +kernel)) ggL_undo_X4_undo
theorem dL_undo_0 : decode cL_undo 0 = .ok (.aload_n 0, 1) := by decide +kernel
theorem dL_undo_1 : decode cL_undo 1 = .ok (.invokevirtual 9, 3) := by decide +kernel
theorem dL_undo_4 : decode cL_undo 4 = .ok (.ireturn, 1) := by decide +kernel
theorem dL_undo_5 : decode cL_undo 5 = .ok (.astore_n 1, 1) := by decide +kernel
theorem dL_undo_6 : decode cL_undo 6 = .ok (.bipush (-3), 2) := by decide +kernel
theorem dL_undo_8 : decode cL_undo 8 = .ok (.ireturn, 1) := by decide +kernel
set_option maxRecDepth 20000 in
theorem ggL_arms_X4_arm : GoodIn wsL_arms wsX4_arm := goodIn_ca (goodIn_ca (goodIn_r _ [9, 10, 11, 12, 13, 14, 15, 16, 17, 8, 18, 19, 20, 21, 22, 23, 24, 25, 26, 27, 28, 29, 30, 31, 32, 33, 34, 35, 36, 37, 38, 39, 40, 41, 42, 43, 44, 45, 46, 47, 48, 49, 50, 51, 52, 53, 54, 55, 56, 57, 58, 59, 60, 61, 62, 63, 64, 65, 66, 67, 68, 69, 70, 71, 72, 73, 74, 75, 76, 77, 78, 79, 80, 81, 82, 83, 84, 85, 86, 87, 88, 144, 145, 146, 147, 148, 149, 150, 151, 152, 153, 154, 155, 156, 157, 158, 159, 160, 161, 162, 163, 164, 165] (by decide +kernel) (by decide +kernel)) (goodIn_sub (fun _ h => List.mem_cons_of_mem _ (List.mem_append_left _ (List.mem_append_right _ h))) (by decide +kernel))) (goodIn_sub (fun _ h => List.mem_cons_of_mem _ (List.mem_append_right _ h)) (by decide +kernel))
set_option maxRecDepth 20000 in
theorem gL_arms_X4_arm : GoodIn wsL_arms (wsV RL 18 RX4 yX4_arm wsX4_arm) := goodIn_app (goodIn_of _ (by decide +kernel)) ggL_arms_X4_arm
set_option maxRecDepth 20000 in
theorem ggL_arms_X4_index : GoodIn wsL_arms wsX4_index := goodIn_ca (goodIn_r _ [92, 15, 12, 78, 93, 94, 8, 95, 19, 20, 21, 22, 23, 27, 28, 29, 30, 31, 32, 33, 34, 35, 36, 37, 38, 39, 40, 25, 26, 41, 42, 43, 44, 45, 46, 47, 48, 49, 50, 51, 52, 53, 54, 55, 56, 57, 58, 59, 60, 61, 62, 63, 64, 65, 66, 67, 68, 69, 70, 71, 72, 73, 79, 80, 144, 145, 146, 147, 148, 149, 162, 163, 164, 165, 150, 151, 152, 153, 154, 155, 156, 157, 158, 159, 160, 161] (by decide +kernel) (by decide +kernel)) (goodIn_sub (fun _ h => List.mem_cons_of_mem _ (List.mem_append_right _ h)) (by decide +kernel))
set_option maxRecDepth 20000 in
theorem gL_arms_X4_index : GoodIn wsL_arms (wsV RL 22 RX4 yX4_index wsX4_index) := goodIn_app (goodIn_of _ (by decide +kernel)) ggL_arms_X4_index
set_option maxRecDepth 20000 in
theorem ggL_arms_X4_setting : GoodIn wsL_arms wsX4_setting := goodIn_ca (goodIn_r _ [99, 12, 100, 101, 102, 8, 103, 19, 20, 21, 22, 23, 24, 25, 26, 144, 145, 146, 147, 148, 149, 150, 151, 152, 153, 154, 155, 156, 157, 158, 159, 160, 161] (by decide +kernel) (by decide +kernel)) (goodIn_sub (fun _ h => List.mem_cons_of_mem _ (List.mem_append_right _ h)) (by decide +kernel))
set_option maxRecDepth 20000 in
theorem gL_arms_X4_setting : GoodIn wsL_arms (wsV RL 26 RX4 yX4_setting wsX4_setting) := goodIn_app (goodIn_of _ (by decide +kernel)) ggL_arms_X4_setting
set_option maxRecDepth 20000 in
theorem ggL_arms_X4_stateOf : GoodIn wsL_arms wsX4_stateOf := goodIn_ca (goodIn_ca (goodIn_r _ [107, 10, 11, 12, 108, 109, 110, 111, 93, 94, 8, 95, 19, 20, 21, 22, 23, 79, 34, 35, 24, 25, 26, 112, 113, 114, 115, 116, 117, 118, 119, 144, 145, 146, 147, 148, 149, 150, 151, 152, 153, 154, 155, 156, 157, 158, 159, 160, 161] (by decide +kernel) (by decide +kernel)) (goodIn_sub (fun _ h => List.mem_cons_of_mem _ (List.mem_append_left _ (List.mem_append_right _ h))) (by decide +kernel))) (goodIn_sub (fun _ h => List.mem_cons_of_mem _ (List.mem_append_right _ h)) (by decide +kernel))
set_option maxRecDepth 20000 in
theorem gL_arms_X4_stateOf : GoodIn wsL_arms (wsV RL 30 RX4 yX4_stateOf wsX4_stateOf) := goodIn_app (goodIn_of _ (by decide +kernel)) ggL_arms_X4_stateOf
set_option maxRecDepth 20000 in
theorem ggL_arms_X4_evenness : GoodIn wsL_arms wsX4_evenness := goodIn_r _ [123, 12, 14, 124, 125, 60, 126, 127, 128, 129, 24, 25, 8, 26, 144, 145, 146, 147, 148, 149, 150, 151, 152, 153, 154, 155, 156, 157, 158, 159, 160, 161] (by decide +kernel) (by decide +kernel)
set_option maxRecDepth 20000 in
theorem gL_arms_X4_evenness : GoodIn wsL_arms (wsV RL 40 RX4 yX4_evenness wsX4_evenness) := goodIn_app (goodIn_of _ (by decide +kernel)) ggL_arms_X4_evenness
set_option maxRecDepth 20000 in
theorem ggL_arms_X4_count : GoodIn wsL_arms wsX4_count := goodIn_ca (goodIn_r _ [133, 10, 11, 12, 134, 135, 136, 137, 138, 139, 140, 141, 142, 143, 25, 8, 26, 144, 145, 146, 147, 148, 149, 150, 151, 152, 153, 154, 155, 156, 157, 158, 159, 160, 161, 166, 167] (by decide +kernel) (by decide +kernel)) (goodIn_sub (fun _ h => List.mem_cons_of_mem _ (List.mem_append_left _ (List.mem_append_right _ h))) (by decide +kernel))
set_option maxRecDepth 20000 in
theorem gL_arms_X4_count : GoodIn wsL_arms (wsV RL 44 RX4 yX4_count wsX4_count) := goodIn_app (goodIn_of _ (by decide +kernel)) ggL_arms_X4_count
theorem dL_arms_0 : decode cL_arms 0 = .ok (.iconst 0, 1) := by decide +kernel
theorem dL_arms_1 : decode cL_arms 1 = .ok (.istore_n 1, 1) := by decide +kernel
theorem dL_arms_2 : decode cL_arms 2 = .ok (.ldc 17, 2) := by decide +kernel
theorem dL_arms_4 : decode cL_arms 4 = .ok (.istore_n 2, 1) := by decide +kernel
theorem dL_arms_5 : decode cL_arms 5 = .ok (.iconst 0, 1) := by decide +kernel
theorem dL_arms_6 : decode cL_arms 6 = .ok (.istore_n 3, 1) := by decide +kernel
theorem dL_arms_7 : decode cL_arms 7 = .ok (.iconst 1, 1) := by decide +kernel
theorem dL_arms_8 : decode cL_arms 8 = .ok (.istore 4, 2) := by decide +kernel
theorem dL_arms_10 : decode cL_arms 10 = .ok (.iconst 0, 1) := by decide +kernel
theorem dL_arms_11 : decode cL_arms 11 = .ok (.istore 5, 2) := by decide +kernel
theorem dL_arms_13 : decode cL_arms 13 = .ok (.iload 5, 2) := by decide +kernel
theorem dL_arms_15 : decode cL_arms 15 = .ok (.iconst 4, 1) := by decide +kernel
theorem dL_arms_16 : decode cL_arms 16 = .ok (.if_icmp .ge 316, 3) := by decide +kernel
theorem dL_arms_19 : decode cL_arms 19 = .ok (.iload 4, 2) := by decide +kernel
theorem dL_arms_21 : decode cL_arms 21 = .ok (.ifCond .eq 311, 3) := by decide +kernel
theorem dL_arms_24 : decode cL_arms 24 = .ok (.aload_n 0, 1) := by decide +kernel
theorem dL_arms_25 : decode cL_arms 25 = .ok (.iload 5, 2) := by decide +kernel
theorem dL_arms_27 : decode cL_arms 27 = .ok (.iconst 1, 1) := by decide +kernel
theorem dL_arms_28 : decode cL_arms 28 = .ok (.invokevirtual 18, 3) := by decide +kernel
theorem dL_arms_31 : decode cL_arms 31 = .ok (.istore 6, 2) := by decide +kernel
theorem dL_arms_33 : decode cL_arms 33 = .ok (.aload_n 0, 1) := by decide +kernel
theorem dL_arms_34 : decode cL_arms 34 = .ok (.iload 5, 2) := by decide +kernel
theorem dL_arms_36 : decode cL_arms 36 = .ok (.aload_n 0, 1) := by decide +kernel
theorem dL_arms_37 : decode cL_arms 37 = .ok (.iload 5, 2) := by decide +kernel
theorem dL_arms_39 : decode cL_arms 39 = .ok (.iconst 2, 1) := by decide +kernel
theorem dL_arms_40 : decode cL_arms 40 = .ok (.invokevirtual 18, 3) := by decide +kernel
theorem dL_arms_43 : decode cL_arms 43 = .ok (.invokevirtual 22, 3) := by decide +kernel
theorem dL_arms_46 : decode cL_arms 46 = .ok (.lstore 7, 2) := by decide +kernel
theorem dL_arms_48 : decode cL_arms 48 = .ok (.iload_n 1, 1) := by decide +kernel
theorem dL_arms_49 : decode cL_arms 49 = .ok (.iload 6, 2) := by decide +kernel
theorem dL_arms_51 : decode cL_arms 51 = .ok (.iadd, 1) := by decide +kernel
theorem dL_arms_52 : decode cL_arms 52 = .ok (.istore_n 1, 1) := by decide +kernel
theorem dL_arms_53 : decode cL_arms 53 = .ok (.iload 6, 2) := by decide +kernel
theorem dL_arms_55 : decode cL_arms 55 = .ok (.iload_n 2, 1) := by decide +kernel
theorem dL_arms_56 : decode cL_arms 56 = .ok (.if_icmp .ge 8, 3) := by decide +kernel
theorem dL_arms_59 : decode cL_arms 59 = .ok (.iload 6, 2) := by decide +kernel
theorem dL_arms_61 : decode cL_arms 61 = .ok (.goto 4, 3) := by decide +kernel
theorem dL_arms_64 : decode cL_arms 64 = .ok (.iload_n 2, 1) := by decide +kernel
theorem dL_arms_65 : decode cL_arms 65 = .ok (.istore_n 2, 1) := by decide +kernel
theorem dL_arms_66 : decode cL_arms 66 = .ok (.iload 6, 2) := by decide +kernel
theorem dL_arms_68 : decode cL_arms 68 = .ok (.iload_n 3, 1) := by decide +kernel
theorem dL_arms_69 : decode cL_arms 69 = .ok (.if_icmp .le 8, 3) := by decide +kernel
theorem dL_arms_72 : decode cL_arms 72 = .ok (.iload 6, 2) := by decide +kernel
theorem dL_arms_74 : decode cL_arms 74 = .ok (.goto 4, 3) := by decide +kernel
theorem dL_arms_77 : decode cL_arms 77 = .ok (.iload_n 3, 1) := by decide +kernel
theorem dL_arms_78 : decode cL_arms 78 = .ok (.istore_n 3, 1) := by decide +kernel
theorem dL_arms_79 : decode cL_arms 79 = .ok (.aload_n 0, 1) := by decide +kernel
theorem dL_arms_80 : decode cL_arms 80 = .ok (.iload 5, 2) := by decide +kernel
theorem dL_arms_82 : decode cL_arms 82 = .ok (.iconst 0, 1) := by decide +kernel
theorem dL_arms_83 : decode cL_arms 83 = .ok (.invokevirtual 18, 3) := by decide +kernel
theorem dL_arms_86 : decode cL_arms 86 = .ok (.ifCond .lt 44, 3) := by decide +kernel
theorem dL_arms_89 : decode cL_arms 89 = .ok (.aload_n 0, 1) := by decide +kernel
theorem dL_arms_90 : decode cL_arms 90 = .ok (.iload 5, 2) := by decide +kernel
theorem dL_arms_92 : decode cL_arms 92 = .ok (.iconst 0, 1) := by decide +kernel
theorem dL_arms_93 : decode cL_arms 93 = .ok (.invokevirtual 18, 3) := by decide +kernel
theorem dL_arms_96 : decode cL_arms 96 = .ok (.iconst 4, 1) := by decide +kernel
theorem dL_arms_97 : decode cL_arms 97 = .ok (.if_icmp .ge 33, 3) := by decide +kernel
theorem dL_arms_100 : decode cL_arms 100 = .ok (.aload_n 0, 1) := by decide +kernel
theorem dL_arms_101 : decode cL_arms 101 = .ok (.iload 5, 2) := by decide +kernel
theorem dL_arms_103 : decode cL_arms 103 = .ok (.iconst 3, 1) := by decide +kernel
theorem dL_arms_104 : decode cL_arms 104 = .ok (.invokevirtual 18, 3) := by decide +kernel
theorem dL_arms_107 : decode cL_arms 107 = .ok (.iconst 1, 1) := by decide +kernel
theorem dL_arms_108 : decode cL_arms 108 = .ok (.if_icmp .lt 22, 3) := by decide +kernel
theorem dL_arms_111 : decode cL_arms 111 = .ok (.aload_n 0, 1) := by decide +kernel
theorem dL_arms_112 : decode cL_arms 112 = .ok (.iload 5, 2) := by decide +kernel
theorem dL_arms_114 : decode cL_arms 114 = .ok (.iconst 3, 1) := by decide +kernel
theorem dL_arms_115 : decode cL_arms 115 = .ok (.invokevirtual 18, 3) := by decide +kernel
theorem dL_arms_118 : decode cL_arms 118 = .ok (.aload_n 0, 1) := by decide +kernel
theorem dL_arms_119 : decode cL_arms 119 = .ok (.iconst 1, 1) := by decide +kernel
theorem dL_arms_120 : decode cL_arms 120 = .ok (.invokevirtual 26, 3) := by decide +kernel
theorem dL_arms_123 : decode cL_arms 123 = .ok (.if_icmp .gt 7, 3) := by decide +kernel
theorem dL_arms_126 : decode cL_arms 126 = .ok (.iconst 1, 1) := by decide +kernel
theorem dL_arms_127 : decode cL_arms 127 = .ok (.goto 4, 3) := by decide +kernel
theorem dL_arms_130 : decode cL_arms 130 = .ok (.iconst 0, 1) := by decide +kernel
theorem dL_arms_131 : decode cL_arms 131 = .ok (.istore 4, 2) := by decide +kernel
theorem dL_arms_133 : decode cL_arms 133 = .ok (.iconst 0, 1) := by decide +kernel
theorem dL_arms_134 : decode cL_arms 134 = .ok (.istore 9, 2) := by decide +kernel
theorem dL_arms_136 : decode cL_arms 136 = .ok (.iload 9, 2) := by decide +kernel
theorem dL_arms_138 : decode cL_arms 138 = .ok (.iconst 4, 1) := by decide +kernel
theorem dL_arms_139 : decode cL_arms 139 = .ok (.if_icmp .ge 187, 3) := by decide +kernel
theorem dL_arms_142 : decode cL_arms 142 = .ok (.iload 4, 2) := by decide +kernel
theorem dL_arms_144 : decode cL_arms 144 = .ok (.ifCond .eq 182, 3) := by decide +kernel
theorem dL_arms_147 : decode cL_arms 147 = .ok (.aload_n 0, 1) := by decide +kernel
theorem dL_arms_148 : decode cL_arms 148 = .ok (.iload 5, 2) := by decide +kernel
theorem dL_arms_150 : decode cL_arms 150 = .ok (.iload 9, 2) := by decide +kernel
theorem dL_arms_152 : decode cL_arms 152 = .ok (.invokevirtual 22, 3) := by decide +kernel
theorem dL_arms_155 : decode cL_arms 155 = .ok (.lstore 10, 2) := by decide +kernel
theorem dL_arms_157 : decode cL_arms 157 = .ok (.aload_n 0, 1) := by decide +kernel
theorem dL_arms_158 : decode cL_arms 158 = .ok (.iload 5, 2) := by decide +kernel
theorem dL_arms_160 : decode cL_arms 160 = .ok (.iload 9, 2) := by decide +kernel
theorem dL_arms_162 : decode cL_arms 162 = .ok (.iconst 4, 1) := by decide +kernel
theorem dL_arms_163 : decode cL_arms 163 = .ok (.invokevirtual 30, 3) := by decide +kernel
theorem dL_arms_166 : decode cL_arms 166 = .ok (.istore 12, 2) := by decide +kernel
theorem dL_arms_168 : decode cL_arms 168 = .ok (.lload 10, 2) := by decide +kernel
theorem dL_arms_170 : decode cL_arms 170 = .ok (.lconst 0, 1) := by decide +kernel
theorem dL_arms_171 : decode cL_arms 171 = .ok (.lcmp, 1) := by decide +kernel
theorem dL_arms_172 : decode cL_arms 172 = .ok (.ifCond .lt 102, 3) := by decide +kernel
theorem dL_arms_175 : decode cL_arms 175 = .ok (.lload 10, 2) := by decide +kernel
theorem dL_arms_177 : decode cL_arms 177 = .ok (.ldc2_w 34, 3) := by decide +kernel
theorem dL_arms_180 : decode cL_arms 180 = .ok (.lcmp, 1) := by decide +kernel
theorem dL_arms_181 : decode cL_arms 181 = .ok (.ifCond .gt 93, 3) := by decide +kernel
theorem dL_arms_184 : decode cL_arms 184 = .ok (.lload 10, 2) := by decide +kernel
theorem dL_arms_186 : decode cL_arms 186 = .ok (.lload 7, 2) := by decide +kernel
theorem dL_arms_188 : decode cL_arms 188 = .ok (.lcmp, 1) := by decide +kernel
theorem dL_arms_189 : decode cL_arms 189 = .ok (.ifCond .gt 85, 3) := by decide +kernel
theorem dL_arms_192 : decode cL_arms 192 = .ok (.iload 9, 2) := by decide +kernel
theorem dL_arms_194 : decode cL_arms 194 = .ok (.aload_n 0, 1) := by decide +kernel
theorem dL_arms_195 : decode cL_arms 195 = .ok (.iload 5, 2) := by decide +kernel
theorem dL_arms_197 : decode cL_arms 197 = .ok (.iconst 2, 1) := by decide +kernel
theorem dL_arms_198 : decode cL_arms 198 = .ok (.invokevirtual 18, 3) := by decide +kernel
theorem dL_arms_201 : decode cL_arms 201 = .ok (.if_icmp .ge 11, 3) := by decide +kernel
theorem dL_arms_204 : decode cL_arms 204 = .ok (.lload 10, 2) := by decide +kernel
theorem dL_arms_206 : decode cL_arms 206 = .ok (.lload 7, 2) := by decide +kernel
theorem dL_arms_208 : decode cL_arms 208 = .ok (.lcmp, 1) := by decide +kernel
theorem dL_arms_209 : decode cL_arms 209 = .ok (.ifCond .ge 65, 3) := by decide +kernel
theorem dL_arms_212 : decode cL_arms 212 = .ok (.iload 12, 2) := by decide +kernel
theorem dL_arms_214 : decode cL_arms 214 = .ok (.iload 9, 2) := by decide +kernel
theorem dL_arms_216 : decode cL_arms 216 = .ok (.ishr, 1) := by decide +kernel
theorem dL_arms_217 : decode cL_arms 217 = .ok (.iconst 1, 1) := by decide +kernel
theorem dL_arms_218 : decode cL_arms 218 = .ok (.iand, 1) := by decide +kernel
theorem dL_arms_219 : decode cL_arms 219 = .ok (.iconst 1, 1) := by decide +kernel
theorem dL_arms_220 : decode cL_arms 220 = .ok (.if_icmp .ne 54, 3) := by decide +kernel
theorem dL_arms_223 : decode cL_arms 223 = .ok (.iload 12, 2) := by decide +kernel
theorem dL_arms_225 : decode cL_arms 225 = .ok (.bipush 16, 2) := by decide +kernel
theorem dL_arms_227 : decode cL_arms 227 = .ok (.if_icmp .ge 47, 3) := by decide +kernel
theorem dL_arms_230 : decode cL_arms 230 = .ok (.aload_n 0, 1) := by decide +kernel
theorem dL_arms_231 : decode cL_arms 231 = .ok (.iconst 1, 1) := by decide +kernel
theorem dL_arms_232 : decode cL_arms 232 = .ok (.invokevirtual 26, 3) := by decide +kernel
theorem dL_arms_235 : decode cL_arms 235 = .ok (.iconst 1, 1) := by decide +kernel
theorem dL_arms_236 : decode cL_arms 236 = .ok (.if_icmp .gt 34, 3) := by decide +kernel
theorem dL_arms_239 : decode cL_arms 239 = .ok (.lload 10, 2) := by decide +kernel
theorem dL_arms_241 : decode cL_arms 241 = .ok (.ldc2_w 36, 3) := by decide +kernel
theorem dL_arms_244 : decode cL_arms 244 = .ok (.aload_n 0, 1) := by decide +kernel
theorem dL_arms_245 : decode cL_arms 245 = .ok (.iconst 0, 1) := by decide +kernel
theorem dL_arms_246 : decode cL_arms 246 = .ok (.invokevirtual 26, 3) := by decide +kernel
theorem dL_arms_249 : decode cL_arms 249 = .ok (.i2l, 1) := by decide +kernel
theorem dL_arms_250 : decode cL_arms 250 = .ok (.lsub, 1) := by decide +kernel
theorem dL_arms_251 : decode cL_arms 251 = .ok (.ldc2_w 38, 3) := by decide +kernel
theorem dL_arms_254 : decode cL_arms 254 = .ok (.lmul, 1) := by decide +kernel
theorem dL_arms_255 : decode cL_arms 255 = .ok (.aload_n 0, 1) := by decide +kernel
theorem dL_arms_256 : decode cL_arms 256 = .ok (.iload 5, 2) := by decide +kernel
theorem dL_arms_258 : decode cL_arms 258 = .ok (.iload 9, 2) := by decide +kernel
theorem dL_arms_260 : decode cL_arms 260 = .ok (.iconst 0, 1) := by decide +kernel
theorem dL_arms_261 : decode cL_arms 261 = .ok (.invokevirtual 30, 3) := by decide +kernel
theorem dL_arms_264 : decode cL_arms 264 = .ok (.i2l, 1) := by decide +kernel
theorem dL_arms_265 : decode cL_arms 265 = .ok (.lmul, 1) := by decide +kernel
theorem dL_arms_266 : decode cL_arms 266 = .ok (.lcmp, 1) := by decide +kernel
theorem dL_arms_267 : decode cL_arms 267 = .ok (.ifCond .ne 7, 3) := by decide +kernel
theorem dL_arms_270 : decode cL_arms 270 = .ok (.iconst 1, 1) := by decide +kernel
theorem dL_arms_271 : decode cL_arms 271 = .ok (.goto 4, 3) := by decide +kernel
theorem dL_arms_274 : decode cL_arms 274 = .ok (.iconst 0, 1) := by decide +kernel
theorem dL_arms_275 : decode cL_arms 275 = .ok (.istore 4, 2) := by decide +kernel
theorem dL_arms_277 : decode cL_arms 277 = .ok (.iload 4, 2) := by decide +kernel
theorem dL_arms_279 : decode cL_arms 279 = .ok (.ifCond .eq 38, 3) := by decide +kernel
theorem dL_arms_282 : decode cL_arms 282 = .ok (.ldc2_w 38, 3) := by decide +kernel
theorem dL_arms_285 : decode cL_arms 285 = .ok (.ldc2_w 36, 3) := by decide +kernel
theorem dL_arms_288 : decode cL_arms 288 = .ok (.aload_n 0, 1) := by decide +kernel
theorem dL_arms_289 : decode cL_arms 289 = .ok (.iconst 0, 1) := by decide +kernel
theorem dL_arms_290 : decode cL_arms 290 = .ok (.invokevirtual 26, 3) := by decide +kernel
theorem dL_arms_293 : decode cL_arms 293 = .ok (.i2l, 1) := by decide +kernel
theorem dL_arms_294 : decode cL_arms 294 = .ok (.lsub, 1) := by decide +kernel
theorem dL_arms_295 : decode cL_arms 295 = .ok (.lmul, 1) := by decide +kernel
theorem dL_arms_296 : decode cL_arms 296 = .ok (.aload_n 0, 1) := by decide +kernel
theorem dL_arms_297 : decode cL_arms 297 = .ok (.iload 5, 2) := by decide +kernel
theorem dL_arms_299 : decode cL_arms 299 = .ok (.iload 9, 2) := by decide +kernel
theorem dL_arms_301 : decode cL_arms 301 = .ok (.iconst 0, 1) := by decide +kernel
theorem dL_arms_302 : decode cL_arms 302 = .ok (.invokevirtual 30, 3) := by decide +kernel
theorem dL_arms_305 : decode cL_arms 305 = .ok (.i2l, 1) := by decide +kernel
theorem dL_arms_306 : decode cL_arms 306 = .ok (.lmul, 1) := by decide +kernel
theorem dL_arms_307 : decode cL_arms 307 = .ok (.lload 10, 2) := by decide +kernel
theorem dL_arms_309 : decode cL_arms 309 = .ok (.lcmp, 1) := by decide +kernel
theorem dL_arms_310 : decode cL_arms 310 = .ok (.ifCond .gt 7, 3) := by decide +kernel
theorem dL_arms_313 : decode cL_arms 313 = .ok (.iconst 1, 1) := by decide +kernel
theorem dL_arms_314 : decode cL_arms 314 = .ok (.goto 4, 3) := by decide +kernel
theorem dL_arms_317 : decode cL_arms 317 = .ok (.iconst 0, 1) := by decide +kernel
theorem dL_arms_318 : decode cL_arms 318 = .ok (.istore 4, 2) := by decide +kernel
theorem dL_arms_320 : decode cL_arms 320 = .ok (.iinc 9 1, 3) := by decide +kernel
theorem dL_arms_323 : decode cL_arms 323 = .ok (.goto (-187), 3) := by decide +kernel
theorem dL_arms_326 : decode cL_arms 326 = .ok (.iinc 5 1, 3) := by decide +kernel
theorem dL_arms_329 : decode cL_arms 329 = .ok (.goto (-316), 3) := by decide +kernel
theorem dL_arms_332 : decode cL_arms 332 = .ok (.aload_n 0, 1) := by decide +kernel
theorem dL_arms_333 : decode cL_arms 333 = .ok (.invokevirtual 40, 3) := by decide +kernel
theorem dL_arms_336 : decode cL_arms 336 = .ok (.dstore 5, 2) := by decide +kernel
theorem dL_arms_338 : decode cL_arms 338 = .ok (.iload 4, 2) := by decide +kernel
theorem dL_arms_340 : decode cL_arms 340 = .ok (.ifCond .eq 103, 3) := by decide +kernel
theorem dL_arms_343 : decode cL_arms 343 = .ok (.iload_n 1, 1) := by decide +kernel
theorem dL_arms_344 : decode cL_arms 344 = .ok (.aload_n 0, 1) := by decide +kernel
theorem dL_arms_345 : decode cL_arms 345 = .ok (.iconst 0, 1) := by decide +kernel
theorem dL_arms_346 : decode cL_arms 346 = .ok (.invokevirtual 44, 3) := by decide +kernel
theorem dL_arms_349 : decode cL_arms 349 = .ok (.if_icmp .ne 94, 3) := by decide +kernel
theorem dL_arms_352 : decode cL_arms 352 = .ok (.iload_n 3, 1) := by decide +kernel
theorem dL_arms_353 : decode cL_arms 353 = .ok (.ifCond .ne 13, 3) := by decide +kernel
theorem dL_arms_356 : decode cL_arms 356 = .ok (.dload 5, 2) := by decide +kernel
theorem dL_arms_358 : decode cL_arms 358 = .ok (.dconst 1, 1) := by decide +kernel
theorem dL_arms_359 : decode cL_arms 359 = .ok (.dcmp .l, 1) := by decide +kernel
theorem dL_arms_360 : decode cL_arms 360 = .ok (.ifCond .ne 83, 3) := by decide +kernel
theorem dL_arms_363 : decode cL_arms 363 = .ok (.goto 14, 3) := by decide +kernel
theorem dL_arms_366 : decode cL_arms 366 = .ok (.dload 5, 2) := by decide +kernel
theorem dL_arms_368 : decode cL_arms 368 = .ok (.iload_n 2, 1) := by decide +kernel
theorem dL_arms_369 : decode cL_arms 369 = .ok (.i2d, 1) := by decide +kernel
theorem dL_arms_370 : decode cL_arms 370 = .ok (.iload_n 3, 1) := by decide +kernel
theorem dL_arms_371 : decode cL_arms 371 = .ok (.i2d, 1) := by decide +kernel
theorem dL_arms_372 : decode cL_arms 372 = .ok (.ddiv, 1) := by decide +kernel
theorem dL_arms_373 : decode cL_arms 373 = .ok (.dcmp .l, 1) := by decide +kernel
theorem dL_arms_374 : decode cL_arms 374 = .ok (.ifCond .ne 69, 3) := by decide +kernel
theorem dL_arms_377 : decode cL_arms 377 = .ok (.aload_n 0, 1) := by decide +kernel
theorem dL_arms_378 : decode cL_arms 378 = .ok (.iconst 0, 1) := by decide +kernel
theorem dL_arms_379 : decode cL_arms 379 = .ok (.invokevirtual 44, 3) := by decide +kernel
theorem dL_arms_382 : decode cL_arms 382 = .ok (.ifCond .ne 7, 3) := by decide +kernel
theorem dL_arms_385 : decode cL_arms 385 = .ok (.iconst 1, 1) := by decide +kernel
theorem dL_arms_386 : decode cL_arms 386 = .ok (.goto 4, 3) := by decide +kernel
theorem dL_arms_389 : decode cL_arms 389 = .ok (.iconst 0, 1) := by decide +kernel
theorem dL_arms_390 : decode cL_arms 390 = .ok (.aload_n 0, 1) := by decide +kernel
theorem dL_arms_391 : decode cL_arms 391 = .ok (.iconst 2, 1) := by decide +kernel
theorem dL_arms_392 : decode cL_arms 392 = .ok (.invokevirtual 44, 3) := by decide +kernel
theorem dL_arms_395 : decode cL_arms 395 = .ok (.iconst (-1), 1) := by decide +kernel
theorem dL_arms_396 : decode cL_arms 396 = .ok (.if_icmp .ne 7, 3) := by decide +kernel
theorem dL_arms_399 : decode cL_arms 399 = .ok (.iconst 1, 1) := by decide +kernel
theorem dL_arms_400 : decode cL_arms 400 = .ok (.goto 4, 3) := by decide +kernel
theorem dL_arms_403 : decode cL_arms 403 = .ok (.iconst 0, 1) := by decide +kernel
theorem dL_arms_404 : decode cL_arms 404 = .ok (.if_icmp .ne 39, 3) := by decide +kernel
theorem dL_arms_407 : decode cL_arms 407 = .ok (.aload_n 0, 1) := by decide +kernel
theorem dL_arms_408 : decode cL_arms 408 = .ok (.iconst 0, 1) := by decide +kernel
theorem dL_arms_409 : decode cL_arms 409 = .ok (.invokevirtual 44, 3) := by decide +kernel
theorem dL_arms_412 : decode cL_arms 412 = .ok (.ifCond .ne 14, 3) := by decide +kernel
theorem dL_arms_415 : decode cL_arms 415 = .ok (.aload_n 0, 1) := by decide +kernel
theorem dL_arms_416 : decode cL_arms 416 = .ok (.iconst 1, 1) := by decide +kernel
theorem dL_arms_417 : decode cL_arms 417 = .ok (.invokevirtual 44, 3) := by decide +kernel
theorem dL_arms_420 : decode cL_arms 420 = .ok (.ifCond .ne 23, 3) := by decide +kernel
theorem dL_arms_423 : decode cL_arms 423 = .ok (.goto 16, 3) := by decide +kernel
theorem dL_arms_426 : decode cL_arms 426 = .ok (.aload_n 0, 1) := by decide +kernel
theorem dL_arms_427 : decode cL_arms 427 = .ok (.iconst 1, 1) := by decide +kernel
theorem dL_arms_428 : decode cL_arms 428 = .ok (.invokevirtual 44, 3) := by decide +kernel
theorem dL_arms_431 : decode cL_arms 431 = .ok (.aload_n 0, 1) := by decide +kernel
theorem dL_arms_432 : decode cL_arms 432 = .ok (.iconst 0, 1) := by decide +kernel
theorem dL_arms_433 : decode cL_arms 433 = .ok (.invokevirtual 44, 3) := by decide +kernel
theorem dL_arms_436 : decode cL_arms 436 = .ok (.if_icmp .ge 7, 3) := by decide +kernel
theorem dL_arms_439 : decode cL_arms 439 = .ok (.iconst 1, 1) := by decide +kernel
theorem dL_arms_440 : decode cL_arms 440 = .ok (.goto 4, 3) := by decide +kernel
theorem dL_arms_443 : decode cL_arms 443 = .ok (.iconst 0, 1) := by decide +kernel
theorem dL_arms_444 : decode cL_arms 444 = .ok (.ireturn, 1) := by decide +kernel
set_option maxRecDepth 20000 in
theorem ggL_sums_X4_sum : GoodIn wsL_sums wsX4_sum := goodIn_ca (goodIn_r _ [7, 8, 9, 10, 11, 12, 13, 226, 227, 228, 229, 230, 231, 232, 233, 234, 235, 236, 237, 238, 239, 240, 241, 242, 243] (by decide +kernel) (by decide +kernel)) (goodIn_sub (fun _ h => List.mem_cons_of_mem _ (List.mem_append_left _ (List.mem_append_right _ h))) (by decide +kernel))
set_option maxRecDepth 20000 in
theorem gL_sums_X4_sum : GoodIn wsL_sums (wsV RL 47 RX4 yX4_sum wsX4_sum) := goodIn_app (goodIn_of _ (by decide +kernel)) ggL_sums_X4_sum
set_option maxRecDepth 20000 in
theorem ggL_sums_X4_choice : GoodIn wsL_sums wsX4_choice := goodIn_ca (goodIn_r _ [17, 18, 10, 19, 20, 6, 21, 8, 9, 22, 23, 24, 25, 26, 27, 28, 29, 30, 31, 32, 33, 34, 35, 36, 37, 38, 39, 40, 41, 42, 43, 44, 45, 46, 47, 48, 49, 50, 51, 52, 53, 54, 55, 56, 57, 58, 59, 60, 61, 62, 63, 64, 65, 66, 67, 68, 69, 70, 71, 72, 73, 74, 75, 76, 77, 78, 79, 80, 81, 82, 83, 84, 85, 86, 87, 88, 89, 90, 91, 92, 93, 94, 95, 96, 97, 98, 99, 100, 101, 102, 103, 104, 105, 106, 226, 227, 228, 229, 230, 231, 244, 245, 246, 247, 232, 233, 234, 235, 236, 237, 238, 239, 240, 241, 242, 243] (by decide +kernel) (by decide +kernel)) (goodIn_sub (fun _ h => List.mem_cons_of_mem _ (List.mem_append_left _ (List.mem_append_right _ h))) (by decide +kernel))
set_option maxRecDepth 20000 in
theorem gL_sums_X4_choice : GoodIn wsL_sums (wsV RL 53 RX4 yX4_choice wsX4_choice) := goodIn_app (goodIn_of _ (by decide +kernel)) ggL_sums_X4_choice
set_option maxRecDepth 20000 in
theorem ggL_sums_X4_count : GoodIn wsL_sums wsX4_count := goodIn_ca (goodIn_r _ [110, 8, 9, 10, 111, 78, 112, 113, 114, 115, 116, 93, 117, 118, 39, 6, 40, 226, 227, 228, 229, 230, 231, 232, 233, 234, 235, 236, 237, 238, 239, 240, 241, 242, 243, 248, 249] (by decide +kernel) (by decide +kernel)) (goodIn_sub (fun _ h => List.mem_cons_of_mem _ (List.mem_append_left _ (List.mem_append_right _ h))) (by decide +kernel))
set_option maxRecDepth 20000 in
theorem gL_sums_X4_count : GoodIn wsL_sums (wsV RL 44 RX4 yX4_count wsX4_count) := goodIn_app (goodIn_of _ (by decide +kernel)) ggL_sums_X4_count
set_option maxRecDepth 20000 in
theorem ggL_sums_X4_ifPlayed : GoodIn wsL_sums wsX4_ifPlayed := goodIn_ca (goodIn_r _ [122, 19, 20, 6, 21, 8, 9, 22, 23, 24, 123, 124, 125, 126, 127, 128, 129, 18, 10, 130, 11, 25, 26, 27, 28, 29, 30, 31, 32, 33, 34, 35, 36, 37, 38, 39, 40, 41, 42, 43, 44, 45, 46, 47, 48, 49, 50, 51, 52, 53, 54, 55, 56, 57, 58, 59, 60, 61, 62, 63, 64, 65, 66, 67, 68, 69, 70, 71, 72, 73, 131, 132, 133, 93, 134, 135, 136, 137, 138, 139, 140, 141, 142, 143, 118, 95, 144, 101, 145, 146, 147, 148, 149, 150, 151, 74, 75, 76, 77, 78, 79, 80, 81, 82, 83, 84, 85, 86, 87, 88, 89, 90, 91, 92, 94, 96, 97, 98, 99, 100, 102, 103, 104, 105, 106, 152, 153, 154, 155, 156, 157, 158, 159, 160, 161, 162, 163, 164, 165, 166, 167, 226, 227, 228, 229, 230, 231, 232, 233, 234, 235, 236, 237, 238, 239, 240, 241, 242, 243, 244, 245, 246, 247] (by decide +kernel) (by decide +kernel)) (goodIn_sub (fun _ h => List.mem_cons_of_mem _ (List.mem_append_left _ (List.mem_append_right _ h))) (by decide +kernel))
set_option maxRecDepth 20000 in
theorem gL_sums_X4_ifPlayed : GoodIn wsL_sums (wsV RL 56 RX4 yX4_ifPlayed wsX4_ifPlayed) := goodIn_app (goodIn_of _ (by decide +kernel)) ggL_sums_X4_ifPlayed
set_option maxRecDepth 20000 in
theorem ggL_sums_X4_arm : GoodIn wsL_sums wsX4_arm := goodIn_ca (goodIn_ca (goodIn_r _ [171, 8, 9, 10, 83, 172, 18, 173, 174, 6, 175, 176, 177, 22, 23, 24, 87, 39, 40, 25, 26, 27, 28, 29, 30, 31, 32, 33, 34, 35, 36, 37, 38, 41, 42, 43, 44, 45, 46, 47, 48, 49, 50, 51, 52, 53, 54, 55, 56, 57, 58, 59, 60, 61, 62, 63, 64, 65, 66, 67, 68, 69, 70, 71, 72, 73, 178, 179, 180, 181, 84, 88, 89, 182, 183, 184, 185, 186, 187, 188, 189, 226, 227, 228, 229, 230, 231, 232, 233, 234, 235, 236, 237, 238, 239, 240, 241, 242, 243, 244, 245, 246, 247] (by decide +kernel) (by decide +kernel)) (goodIn_sub (fun _ h => List.mem_cons_of_mem _ (List.mem_append_left _ (List.mem_append_right _ h))) (by decide +kernel))) (goodIn_sub (fun _ h => List.mem_cons_of_mem _ (List.mem_append_right _ h)) (by decide +kernel))
set_option maxRecDepth 20000 in
theorem gL_sums_X4_arm : GoodIn wsL_sums (wsV RL 18 RX4 yX4_arm wsX4_arm) := goodIn_app (goodIn_of _ (by decide +kernel)) ggL_sums_X4_arm
set_option maxRecDepth 20000 in
theorem ggL_sums_X4_giftFor : GoodIn wsL_sums wsX4_giftFor := goodIn_ca (goodIn_r _ [193, 18, 10, 130, 194, 195, 6, 196, 176, 177, 22, 23, 24, 25, 26, 27, 28, 29, 30, 31, 32, 33, 34, 35, 36, 37, 38, 39, 40, 41, 42, 43, 44, 45, 46, 47, 48, 49, 50, 51, 52, 53, 54, 55, 56, 57, 58, 59, 60, 61, 62, 63, 64, 65, 66, 67, 68, 69, 70, 71, 72, 73, 131, 132, 133, 93, 134, 135, 136, 137, 138, 139, 140, 141, 142, 143, 118, 95, 144, 101, 145, 146, 147, 79, 80, 81, 82, 83, 84, 85, 86, 87, 88, 89, 90, 91, 92, 94, 96, 97, 98, 99, 100, 102, 197, 198, 199, 200, 78, 201, 160, 161, 202, 103, 104, 105, 106, 226, 227, 228, 229, 230, 231, 244, 245, 246, 247, 232, 233, 234, 235, 236, 237, 238, 239, 240, 241, 242, 243] (by decide +kernel) (by decide +kernel)) (goodIn_sub (fun _ h => List.mem_cons_of_mem _ (List.mem_append_right _ h)) (by decide +kernel))
set_option maxRecDepth 20000 in
theorem gL_sums_X4_giftFor : GoodIn wsL_sums (wsV RL 61 RX4 yX4_giftFor wsX4_giftFor) := goodIn_app (goodIn_of _ (by decide +kernel)) ggL_sums_X4_giftFor
set_option maxRecDepth 20000 in
theorem ggL_sums_X4_stateOf : GoodIn wsL_sums wsX4_stateOf := goodIn_ca (goodIn_ca (goodIn_r _ [206, 8, 9, 10, 85, 207, 208, 209, 194, 195, 6, 196, 176, 177, 22, 23, 24, 88, 32, 33, 87, 39, 40, 210, 211, 212, 213, 214, 215, 216, 217, 226, 227, 228, 229, 230, 231, 232, 233, 234, 235, 236, 237, 238, 239, 240, 241, 242, 243] (by decide +kernel) (by decide +kernel)) (goodIn_sub (fun _ h => List.mem_cons_of_mem _ (List.mem_append_left _ (List.mem_append_right _ h))) (by decide +kernel))) (goodIn_sub (fun _ h => List.mem_cons_of_mem _ (List.mem_append_right _ h)) (by decide +kernel))
set_option maxRecDepth 20000 in
theorem gL_sums_X4_stateOf : GoodIn wsL_sums (wsV RL 30 RX4 yX4_stateOf wsX4_stateOf) := goodIn_app (goodIn_of _ (by decide +kernel)) ggL_sums_X4_stateOf
set_option maxRecDepth 20000 in
theorem ggL_sums_X4_setting : GoodIn wsL_sums wsX4_setting := goodIn_ca (goodIn_r _ [221, 10, 222, 223, 224, 6, 225, 176, 177, 22, 23, 24, 87, 39, 40, 226, 227, 228, 229, 230, 231, 232, 233, 234, 235, 236, 237, 238, 239, 240, 241, 242, 243] (by decide +kernel) (by decide +kernel)) (goodIn_sub (fun _ h => List.mem_cons_of_mem _ (List.mem_append_right _ h)) (by decide +kernel))
set_option maxRecDepth 20000 in
theorem gL_sums_X4_setting : GoodIn wsL_sums (wsV RL 26 RX4 yX4_setting wsX4_setting) := goodIn_app (goodIn_of _ (by decide +kernel)) ggL_sums_X4_setting
theorem dL_sums_0 : decode cL_sums 0 = .ok (.aload_n 0, 1) := by decide +kernel
theorem dL_sums_1 : decode cL_sums 1 = .ok (.iconst 1, 1) := by decide +kernel
theorem dL_sums_2 : decode cL_sums 2 = .ok (.invokevirtual 47, 3) := by decide +kernel
theorem dL_sums_5 : decode cL_sums 5 = .ok (.lconst 0, 1) := by decide +kernel
theorem dL_sums_6 : decode cL_sums 6 = .ok (.lcmp, 1) := by decide +kernel
theorem dL_sums_7 : decode cL_sums 7 = .ok (.ifCond .lt 36, 3) := by decide +kernel
theorem dL_sums_10 : decode cL_sums 10 = .ok (.aload_n 0, 1) := by decide +kernel
theorem dL_sums_11 : decode cL_sums 11 = .ok (.iconst 1, 1) := by decide +kernel
theorem dL_sums_12 : decode cL_sums 12 = .ok (.invokevirtual 47, 3) := by decide +kernel
theorem dL_sums_15 : decode cL_sums 15 = .ok (.ldc2_w 51, 3) := by decide +kernel
theorem dL_sums_18 : decode cL_sums 18 = .ok (.lcmp, 1) := by decide +kernel
theorem dL_sums_19 : decode cL_sums 19 = .ok (.ifCond .gt 24, 3) := by decide +kernel
theorem dL_sums_22 : decode cL_sums 22 = .ok (.aload_n 0, 1) := by decide +kernel
theorem dL_sums_23 : decode cL_sums 23 = .ok (.iconst 2, 1) := by decide +kernel
theorem dL_sums_24 : decode cL_sums 24 = .ok (.invokevirtual 53, 3) := by decide +kernel
theorem dL_sums_27 : decode cL_sums 27 = .ok (.aload_n 0, 1) := by decide +kernel
theorem dL_sums_28 : decode cL_sums 28 = .ok (.iconst 2, 1) := by decide +kernel
theorem dL_sums_29 : decode cL_sums 29 = .ok (.invokevirtual 44, 3) := by decide +kernel
theorem dL_sums_32 : decode cL_sums 32 = .ok (.iconst 1, 1) := by decide +kernel
theorem dL_sums_33 : decode cL_sums 33 = .ok (.iadd, 1) := by decide +kernel
theorem dL_sums_34 : decode cL_sums 34 = .ok (.iconst 4, 1) := by decide +kernel
theorem dL_sums_35 : decode cL_sums 35 = .ok (.irem, 1) := by decide +kernel
theorem dL_sums_36 : decode cL_sums 36 = .ok (.if_icmp .ne 7, 3) := by decide +kernel
theorem dL_sums_39 : decode cL_sums 39 = .ok (.iconst 1, 1) := by decide +kernel
theorem dL_sums_40 : decode cL_sums 40 = .ok (.goto 4, 3) := by decide +kernel
theorem dL_sums_43 : decode cL_sums 43 = .ok (.iconst 0, 1) := by decide +kernel
theorem dL_sums_44 : decode cL_sums 44 = .ok (.istore_n 1, 1) := by decide +kernel
theorem dL_sums_45 : decode cL_sums 45 = .ok (.iconst 0, 1) := by decide +kernel
theorem dL_sums_46 : decode cL_sums 46 = .ok (.istore_n 2, 1) := by decide +kernel
theorem dL_sums_47 : decode cL_sums 47 = .ok (.iload_n 2, 1) := by decide +kernel
theorem dL_sums_48 : decode cL_sums 48 = .ok (.iconst 3, 1) := by decide +kernel
theorem dL_sums_49 : decode cL_sums 49 = .ok (.if_icmp .ge 47, 3) := by decide +kernel
theorem dL_sums_52 : decode cL_sums 52 = .ok (.iload_n 1, 1) := by decide +kernel
theorem dL_sums_53 : decode cL_sums 53 = .ok (.ifCond .eq 43, 3) := by decide +kernel
theorem dL_sums_56 : decode cL_sums 56 = .ok (.aload_n 0, 1) := by decide +kernel
theorem dL_sums_57 : decode cL_sums 57 = .ok (.iload_n 2, 1) := by decide +kernel
theorem dL_sums_58 : decode cL_sums 58 = .ok (.invokevirtual 53, 3) := by decide +kernel
theorem dL_sums_61 : decode cL_sums 61 = .ok (.istore_n 3, 1) := by decide +kernel
theorem dL_sums_62 : decode cL_sums 62 = .ok (.iload_n 3, 1) := by decide +kernel
theorem dL_sums_63 : decode cL_sums 63 = .ok (.ifCond .lt 25, 3) := by decide +kernel
theorem dL_sums_66 : decode cL_sums 66 = .ok (.iload_n 3, 1) := by decide +kernel
theorem dL_sums_67 : decode cL_sums 67 = .ok (.iconst 4, 1) := by decide +kernel
theorem dL_sums_68 : decode cL_sums 68 = .ok (.if_icmp .ge 20, 3) := by decide +kernel
theorem dL_sums_71 : decode cL_sums 71 = .ok (.aload_n 0, 1) := by decide +kernel
theorem dL_sums_72 : decode cL_sums 72 = .ok (.iload_n 2, 1) := by decide +kernel
theorem dL_sums_73 : decode cL_sums 73 = .ok (.iconst 2, 1) := by decide +kernel
theorem dL_sums_74 : decode cL_sums 74 = .ok (.invokevirtual 56, 3) := by decide +kernel
theorem dL_sums_77 : decode cL_sums 77 = .ok (.ldc2_w 59, 3) := by decide +kernel
theorem dL_sums_80 : decode cL_sums 80 = .ok (.lcmp, 1) := by decide +kernel
theorem dL_sums_81 : decode cL_sums 81 = .ok (.ifCond .gt 7, 3) := by decide +kernel
theorem dL_sums_84 : decode cL_sums 84 = .ok (.iconst 1, 1) := by decide +kernel
theorem dL_sums_85 : decode cL_sums 85 = .ok (.goto 4, 3) := by decide +kernel
theorem dL_sums_88 : decode cL_sums 88 = .ok (.iconst 0, 1) := by decide +kernel
theorem dL_sums_89 : decode cL_sums 89 = .ok (.istore_n 1, 1) := by decide +kernel
theorem dL_sums_90 : decode cL_sums 90 = .ok (.iinc 2 1, 3) := by decide +kernel
theorem dL_sums_93 : decode cL_sums 93 = .ok (.goto (-46), 3) := by decide +kernel
theorem dL_sums_96 : decode cL_sums 96 = .ok (.aload_n 0, 1) := by decide +kernel
theorem dL_sums_97 : decode cL_sums 97 = .ok (.iconst 1, 1) := by decide +kernel
theorem dL_sums_98 : decode cL_sums 98 = .ok (.aload_n 0, 1) := by decide +kernel
theorem dL_sums_99 : decode cL_sums 99 = .ok (.iconst 1, 1) := by decide +kernel
theorem dL_sums_100 : decode cL_sums 100 = .ok (.iconst 0, 1) := by decide +kernel
theorem dL_sums_101 : decode cL_sums 101 = .ok (.invokevirtual 18, 3) := by decide +kernel
theorem dL_sums_104 : decode cL_sums 104 = .ok (.invokevirtual 61, 3) := by decide +kernel
theorem dL_sums_107 : decode cL_sums 107 = .ok (.istore_n 2, 1) := by decide +kernel
theorem dL_sums_108 : decode cL_sums 108 = .ok (.iload_n 1, 1) := by decide +kernel
theorem dL_sums_109 : decode cL_sums 109 = .ok (.ifCond .eq 66, 3) := by decide +kernel
theorem dL_sums_112 : decode cL_sums 112 = .ok (.iload_n 2, 1) := by decide +kernel
theorem dL_sums_113 : decode cL_sums 113 = .ok (.iconst (-1), 1) := by decide +kernel
theorem dL_sums_114 : decode cL_sums 114 = .ok (.if_icmp .lt 61, 3) := by decide +kernel
theorem dL_sums_117 : decode cL_sums 117 = .ok (.iload_n 2, 1) := by decide +kernel
theorem dL_sums_118 : decode cL_sums 118 = .ok (.bipush 99, 2) := by decide +kernel
theorem dL_sums_120 : decode cL_sums 120 = .ok (.if_icmp .gt 55, 3) := by decide +kernel
theorem dL_sums_123 : decode cL_sums 123 = .ok (.aload_n 0, 1) := by decide +kernel
theorem dL_sums_124 : decode cL_sums 124 = .ok (.iconst 0, 1) := by decide +kernel
theorem dL_sums_125 : decode cL_sums 125 = .ok (.invokevirtual 53, 3) := by decide +kernel
theorem dL_sums_128 : decode cL_sums 128 = .ok (.iconst 1, 1) := by decide +kernel
theorem dL_sums_129 : decode cL_sums 129 = .ok (.if_icmp .ne 23, 3) := by decide +kernel
theorem dL_sums_132 : decode cL_sums 132 = .ok (.iload_n 2, 1) := by decide +kernel
theorem dL_sums_133 : decode cL_sums 133 = .ok (.ifCond .lt 42, 3) := by decide +kernel
theorem dL_sums_136 : decode cL_sums 136 = .ok (.iload_n 2, 1) := by decide +kernel
theorem dL_sums_137 : decode cL_sums 137 = .ok (.aload_n 0, 1) := by decide +kernel
theorem dL_sums_138 : decode cL_sums 138 = .ok (.iconst 1, 1) := by decide +kernel
theorem dL_sums_139 : decode cL_sums 139 = .ok (.aload_n 0, 1) := by decide +kernel
theorem dL_sums_140 : decode cL_sums 140 = .ok (.iconst 1, 1) := by decide +kernel
theorem dL_sums_141 : decode cL_sums 141 = .ok (.iconst 0, 1) := by decide +kernel
theorem dL_sums_142 : decode cL_sums 142 = .ok (.invokevirtual 18, 3) := by decide +kernel
theorem dL_sums_145 : decode cL_sums 145 = .ok (.iconst 0, 1) := by decide +kernel
theorem dL_sums_146 : decode cL_sums 146 = .ok (.invokevirtual 30, 3) := by decide +kernel
theorem dL_sums_149 : decode cL_sums 149 = .ok (.if_icmp .gt 26, 3) := by decide +kernel
theorem dL_sums_152 : decode cL_sums 152 = .ok (.aload_n 0, 1) := by decide +kernel
theorem dL_sums_153 : decode cL_sums 153 = .ok (.iconst 2, 1) := by decide +kernel
theorem dL_sums_154 : decode cL_sums 154 = .ok (.invokevirtual 26, 3) := by decide +kernel
theorem dL_sums_157 : decode cL_sums 157 = .ok (.ifCond .gt 14, 3) := by decide +kernel
theorem dL_sums_160 : decode cL_sums 160 = .ok (.aload_n 0, 1) := by decide +kernel
theorem dL_sums_161 : decode cL_sums 161 = .ok (.iconst 0, 1) := by decide +kernel
theorem dL_sums_162 : decode cL_sums 162 = .ok (.iconst 3, 1) := by decide +kernel
theorem dL_sums_163 : decode cL_sums 163 = .ok (.invokevirtual 56, 3) := by decide +kernel
theorem dL_sums_166 : decode cL_sums 166 = .ok (.lconst 0, 1) := by decide +kernel
theorem dL_sums_167 : decode cL_sums 167 = .ok (.lcmp, 1) := by decide +kernel
theorem dL_sums_168 : decode cL_sums 168 = .ok (.ifCond .lt 7, 3) := by decide +kernel
theorem dL_sums_171 : decode cL_sums 171 = .ok (.iconst 1, 1) := by decide +kernel
theorem dL_sums_172 : decode cL_sums 172 = .ok (.goto 4, 3) := by decide +kernel
theorem dL_sums_175 : decode cL_sums 175 = .ok (.iconst 0, 1) := by decide +kernel
theorem dL_sums_176 : decode cL_sums 176 = .ok (.ireturn, 1) := by decide +kernel
set_option maxRecDepth 20000 in
theorem ggL_act_L_cell : GoodIn wsL_act wsL_cell := goodIn_r _ [4, 5] (by decide +kernel) (by decide +kernel)
set_option maxRecDepth 20000 in
theorem gL_act_L_cell : GoodIn wsL_act (va_wsS RL 64 yL_cell wsL_cell) := goodIn_app (goodIn_of _ (by decide +kernel)) ggL_act_L_cell
set_option maxRecDepth 20000 in
theorem ggL_act_L_low : GoodIn wsL_act wsL_low := goodIn_r _ [8, 9] (by decide +kernel) (by decide +kernel)
set_option maxRecDepth 20000 in
theorem gL_act_L_low : GoodIn wsL_act (va_wsS RL 70 yL_low wsL_low) := goodIn_app (goodIn_of _ (by decide +kernel)) ggL_act_L_low
set_option maxRecDepth 20000 in
theorem ggL_act_X4_gift : GoodIn wsL_act wsX4_gift := goodIn_ca (goodIn_ca (goodIn_r _ [14, 15, 16, 17, 18, 19, 20, 21, 22, 13, 23, 24, 25, 26, 27, 28, 29, 30, 31, 32, 33, 34, 35, 36, 37, 38, 39, 40, 41, 42, 43, 44, 45, 46, 47, 48, 49, 50, 51, 52, 53, 54, 55, 56, 57, 58, 59, 60, 61, 62, 63, 64, 65, 66, 67, 68, 69, 70, 71, 72, 73, 74, 75, 76, 77, 78, 79, 238, 239, 240, 241, 242, 243, 244, 245, 246, 247, 248, 249, 250, 251, 252, 253, 254, 255, 256, 257, 258, 259, 260, 261] (by decide +kernel) (by decide +kernel)) (goodIn_sub (fun _ h => List.mem_cons_of_mem _ (List.mem_append_left _ (List.mem_append_left _ (List.mem_append_right _ h)))) (by decide +kernel))) (goodIn_sub (fun _ h => List.mem_cons_of_mem _ (List.mem_append_left _ (List.mem_append_right _ h))) (by decide +kernel))
set_option maxRecDepth 20000 in
theorem gL_act_X4_gift : GoodIn wsL_act (wsV RL 73 RX4 yX4_gift wsX4_gift) := goodIn_app (goodIn_of _ (by decide +kernel)) ggL_act_X4_gift
set_option maxRecDepth 20000 in
theorem ggL_act_X4_way : GoodIn wsL_act wsX4_way := goodIn_ca (goodIn_ca (goodIn_r _ [83, 15, 16, 17, 18, 84, 85, 86, 20, 21, 22, 13, 23, 24, 25, 26, 27, 28, 29, 30, 31, 32, 33, 34, 35, 36, 37, 38, 39, 40, 41, 42, 43, 44, 45, 46, 47, 48, 49, 50, 51, 52, 53, 54, 55, 56, 57, 58, 59, 60, 61, 62, 63, 64, 65, 66, 67, 68, 69, 70, 71, 72, 73, 74, 75, 76, 77, 78, 79, 238, 239, 240, 241, 242, 243, 244, 245, 246, 247, 248, 249, 250, 251, 252, 253, 254, 255, 256, 257, 258, 259, 260, 261] (by decide +kernel) (by decide +kernel)) (goodIn_sub (fun _ h => List.mem_cons_of_mem _ (List.mem_append_left _ (List.mem_append_left _ (List.mem_append_right _ h)))) (by decide +kernel))) (goodIn_sub (fun _ h => List.mem_cons_of_mem _ (List.mem_append_left _ (List.mem_append_right _ h))) (by decide +kernel))
set_option maxRecDepth 20000 in
theorem gL_act_X4_way : GoodIn wsL_act (wsV RL 76 RX4 yX4_way wsX4_way) := goodIn_app (goodIn_of _ (by decide +kernel)) ggL_act_X4_way
set_option maxRecDepth 20000 in
theorem ggL_act_X4_put : GoodIn wsL_act wsX4_put := goodIn_ca (goodIn_r _ [90, 17, 18, 91, 21, 22, 13, 23, 24, 25, 26, 27, 28, 29, 30, 31, 32, 33, 34, 35, 36, 37, 38, 39, 40, 41, 42, 43, 44, 45, 46, 47, 48, 49, 50, 51, 52, 53, 54, 55, 56, 57, 58, 59, 60, 61, 62, 63, 64, 68, 69, 70, 71, 72, 73, 238, 239, 240, 241, 242, 243, 244, 245, 246, 247, 248, 249, 250, 251, 252, 253, 254, 255, 256, 257] (by decide +kernel) (by decide +kernel)) (goodIn_sub (fun _ h => List.mem_cons_of_mem _ (List.mem_append_left _ (List.mem_append_right _ h))) (by decide +kernel))
set_option maxRecDepth 20000 in
theorem gL_act_X4_put : GoodIn wsL_act (wsV RL 80 RX4 yX4_put wsX4_put) := goodIn_app (goodIn_of _ (by decide +kernel)) ggL_act_X4_put
set_option maxRecDepth 20000 in
theorem ggL_act_X4_set : GoodIn wsL_act wsX4_set := goodIn_ca (goodIn_ca (goodIn_r _ [95, 15, 16, 96, 97, 17, 18, 98, 20, 99, 100, 13, 101, 24, 25, 26, 27, 28, 68, 69, 70, 29, 30, 31, 32, 33, 34, 35, 36, 37, 38, 39, 40, 41, 42, 43, 44, 45, 46, 47, 48, 49, 50, 51, 52, 53, 54, 55, 56, 57, 58, 59, 60, 61, 62, 63, 64, 71, 72, 73, 102, 103, 104, 77, 105, 79, 238, 239, 240, 241, 242, 243, 244, 245, 246, 247, 248, 249, 250, 251, 252, 253, 254, 255, 256, 257, 258, 259, 260, 261] (by decide +kernel) (by decide +kernel)) (goodIn_sub (fun _ h => List.mem_cons_of_mem _ (List.mem_append_left _ (List.mem_append_left _ (List.mem_append_right _ h)))) (by decide +kernel))) (goodIn_sub (fun _ h => List.mem_cons_of_mem _ (List.mem_append_left _ (List.mem_append_right _ h))) (by decide +kernel))
set_option maxRecDepth 20000 in
theorem gL_act_X4_set : GoodIn wsL_act (wsV RL 83 RX4 yX4_set wsX4_set) := goodIn_app (goodIn_of _ (by decide +kernel)) ggL_act_X4_set
set_option maxRecDepth 20000 in
theorem ggL_act_X4_pull : GoodIn wsL_act wsX4_pull := goodIn_ca (goodIn_ca (goodIn_r _ [109, 110, 111, 18, 17, 91, 112, 113, 13, 114, 24, 25, 26, 27, 28, 115, 116, 117, 47, 118, 58, 69, 70, 29, 30, 31, 32, 33, 34, 35, 36, 37, 38, 39, 40, 41, 42, 43, 44, 45, 46, 48, 49, 50, 51, 52, 53, 54, 55, 56, 57, 59, 60, 61, 62, 63, 64, 119, 120, 121, 122, 123, 124, 125, 66, 67, 126, 127, 128, 129, 130, 131, 132, 133, 72, 73, 134, 135, 136, 137, 138, 139, 68, 238, 239, 240, 241, 242, 243, 244, 245, 246, 247, 248, 249, 250, 251, 252, 253, 254, 255, 256, 257] (by decide +kernel) (by decide +kernel)) (goodIn_sub (fun _ h => List.mem_cons_of_mem _ (List.mem_append_right _ h)) (by decide +kernel))) (goodIn_sub (fun _ h => List.mem_cons_of_mem _ (List.mem_append_left _ (List.mem_append_right _ h))) (by decide +kernel))
set_option maxRecDepth 20000 in
theorem gL_act_X4_pull : GoodIn wsL_act (wsV RL 86 RX4 yX4_pull wsX4_pull) := goodIn_app (goodIn_of _ (by decide +kernel)) ggL_act_X4_pull
set_option maxRecDepth 20000 in
theorem ggL_act_X4_play : GoodIn wsL_act wsX4_play := goodIn_ca (goodIn_ca (goodIn_r _ [143, 110, 111, 18, 17, 20, 144, 145, 146, 13, 147, 15, 16, 26, 27, 28, 148, 149, 150, 115, 116, 117, 47, 118, 58, 69, 70, 29, 30, 31, 32, 33, 34, 35, 36, 37, 38, 39, 40, 41, 42, 43, 44, 45, 46, 48, 49, 50, 51, 52, 53, 54, 55, 56, 57, 59, 60, 61, 62, 63, 64, 151, 152, 153, 77, 154, 79, 155, 66, 67, 156, 157, 158, 159, 160, 161, 162, 163, 164, 165, 166, 167, 168, 169, 170, 171, 172, 173, 174, 175, 176, 177, 178, 179, 180, 181, 182, 183, 184, 131, 132, 133, 185, 186, 187, 188, 189, 190, 191, 192, 193, 194, 195, 196, 197, 198, 199, 200, 201, 202, 203, 91, 204, 19, 205, 68, 65, 206, 207, 208, 209, 210, 211, 126, 127, 128, 129, 212, 213, 214, 215, 216, 119, 120, 121, 122, 123, 124, 125, 130, 72, 73, 134, 135, 136, 137, 138, 139, 238, 239, 240, 241, 242, 243, 244, 245, 246, 247, 248, 249, 250, 251, 252, 253, 254, 255, 256, 257, 258, 259, 260, 261] (by decide +kernel) (by decide +kernel)) (goodIn_sub (fun _ h => List.mem_cons_of_mem _ (List.mem_append_right _ h)) (by decide +kernel))) (goodIn_sub (fun _ h => List.mem_cons_of_mem _ (List.mem_append_left _ (List.mem_append_left _ (List.mem_append_right _ h)))) (by decide +kernel))
set_option maxRecDepth 20000 in
theorem gL_act_X4_play : GoodIn wsL_act (wsV RL 89 RX4 yX4_play wsX4_play) := goodIn_app (goodIn_of _ (by decide +kernel)) ggL_act_X4_play
set_option maxRecDepth 20000 in
theorem ggL_act_X4_begin : GoodIn wsL_act wsX4_begin := goodIn_r _ [220, 17, 18, 29, 30, 31, 32, 33, 34, 35, 36, 37, 38, 39, 40, 41, 42, 43, 44, 45, 46, 47, 48, 49, 50, 51, 52, 53, 54, 55, 56, 57, 58, 59, 60, 61, 62, 63, 64, 115, 116, 117, 118, 69, 13, 70, 221, 222, 223, 224, 124, 72, 73, 238, 239, 240, 241, 242, 243, 256, 257, 244, 245, 246, 247, 248, 249, 250, 251, 252, 253, 254, 255] (by decide +kernel) (by decide +kernel)
set_option maxRecDepth 20000 in
theorem gL_act_X4_begin : GoodIn wsL_act (wsV RL 92 RX4 yX4_begin wsX4_begin) := goodIn_app (goodIn_of _ (by decide +kernel)) ggL_act_X4_begin
set_option maxRecDepth 20000 in
theorem ggL_act_L_undo : GoodIn wsL_act wsL_undo := goodIn_ca (goodIn_r _ [227, 228, 229, 230, 231, 13, 232, 110, 111, 17, 233, 18, 20, 234, 235, 236, 32, 237, 34, 40, 41, 42, 43, 35, 44, 45, 46, 47, 48, 49, 50, 51, 52, 53, 54, 55, 56, 57, 58, 59, 60, 61, 62, 63, 64, 102, 103, 104, 77, 105, 79, 238, 239, 240, 241, 242, 243, 256, 257, 244, 245, 246, 247, 248, 249, 250, 251, 252, 253, 254, 255, 258, 259, 260, 261] (by decide +kernel) (by decide +kernel)) (goodIn_sub (fun _ h => List.mem_cons_of_mem _ (List.mem_append_right _ h)) (by decide +kernel))
set_option maxRecDepth 20000 in
theorem gL_act_L_undo : GoodIn wsL_act (va_wsS RL 96 yL_undo wsL_undo) := goodIn_app (goodIn_of _ (by decide +kernel)) ggL_act_L_undo
theorem dL_act_0 : decode cL_act 0 = .ok (.aload_n 1, 1) := by decide +kernel
theorem dL_act_1 : decode cL_act 1 = .ok (.iload_n 2, 1) := by decide +kernel
theorem dL_act_2 : decode cL_act 2 = .ok (.iconst 1, 1) := by decide +kernel
theorem dL_act_3 : decode cL_act 3 = .ok (.iadd, 1) := by decide +kernel
theorem dL_act_4 : decode cL_act 4 = .ok (.invokestatic 64, 3) := by decide +kernel
theorem dL_act_7 : decode cL_act 7 = .ok (.istore_n 3, 1) := by decide +kernel
theorem dL_act_8 : decode cL_act 8 = .ok (.aload_n 1, 1) := by decide +kernel
theorem dL_act_9 : decode cL_act 9 = .ok (.iload_n 2, 1) := by decide +kernel
theorem dL_act_10 : decode cL_act 10 = .ok (.iconst 2, 1) := by decide +kernel
theorem dL_act_11 : decode cL_act 11 = .ok (.iadd, 1) := by decide +kernel
theorem dL_act_12 : decode cL_act 12 = .ok (.invokestatic 64, 3) := by decide +kernel
theorem dL_act_15 : decode cL_act 15 = .ok (.istore 4, 2) := by decide +kernel
theorem dL_act_17 : decode cL_act 17 = .ok (.aload_n 1, 1) := by decide +kernel
theorem dL_act_18 : decode cL_act 18 = .ok (.iload_n 2, 1) := by decide +kernel
theorem dL_act_19 : decode cL_act 19 = .ok (.iconst 3, 1) := by decide +kernel
theorem dL_act_20 : decode cL_act 20 = .ok (.iadd, 1) := by decide +kernel
theorem dL_act_21 : decode cL_act 21 = .ok (.invokestatic 64, 3) := by decide +kernel
theorem dL_act_24 : decode cL_act 24 = .ok (.istore 5, 2) := by decide +kernel
theorem dL_act_26 : decode cL_act 26 = .ok (.aload_n 1, 1) := by decide +kernel
theorem dL_act_27 : decode cL_act 27 = .ok (.iload_n 2, 1) := by decide +kernel
theorem dL_act_28 : decode cL_act 28 = .ok (.invokestatic 64, 3) := by decide +kernel
theorem dL_act_31 : decode cL_act 31 = .ok (.bipush 16, 2) := by decide +kernel
theorem dL_act_33 : decode cL_act 33 = .ok (.invokestatic 70, 3) := by decide +kernel
theorem dL_act_36 : decode cL_act 36 = .ok (.tableswitch 232 0 14 #[76, 76, 76, 76, 99, 99, 99, 136, 152, 171, 183, 183, 193, 193, 212], 76) := by decide +kernel
theorem dL_act_112 : decode cL_act 112 = .ok (.aload_n 0, 1) := by decide +kernel
theorem dL_act_113 : decode cL_act 113 = .ok (.iload_n 3, 1) := by decide +kernel
theorem dL_act_114 : decode cL_act 114 = .ok (.iconst 4, 1) := by decide +kernel
theorem dL_act_115 : decode cL_act 115 = .ok (.invokestatic 70, 3) := by decide +kernel
theorem dL_act_118 : decode cL_act 118 = .ok (.iload 4, 2) := by decide +kernel
theorem dL_act_120 : decode cL_act 120 = .ok (.iconst 4, 1) := by decide +kernel
theorem dL_act_121 : decode cL_act 121 = .ok (.invokestatic 70, 3) := by decide +kernel
theorem dL_act_124 : decode cL_act 124 = .ok (.iload 5, 2) := by decide +kernel
theorem dL_act_126 : decode cL_act 126 = .ok (.bipush 100, 2) := by decide +kernel
theorem dL_act_128 : decode cL_act 128 = .ok (.invokestatic 70, 3) := by decide +kernel
theorem dL_act_131 : decode cL_act 131 = .ok (.invokevirtual 73, 3) := by decide +kernel
theorem dL_act_134 : decode cL_act 134 = .ok (.ireturn, 1) := by decide +kernel
theorem dL_act_135 : decode cL_act 135 = .ok (.aload_n 0, 1) := by decide +kernel
theorem dL_act_136 : decode cL_act 136 = .ok (.iload_n 3, 1) := by decide +kernel
theorem dL_act_137 : decode cL_act 137 = .ok (.iconst 4, 1) := by decide +kernel
theorem dL_act_138 : decode cL_act 138 = .ok (.invokestatic 70, 3) := by decide +kernel
theorem dL_act_141 : decode cL_act 141 = .ok (.iload 4, 2) := by decide +kernel
theorem dL_act_143 : decode cL_act 143 = .ok (.iconst 4, 1) := by decide +kernel
theorem dL_act_144 : decode cL_act 144 = .ok (.invokestatic 70, 3) := by decide +kernel
theorem dL_act_147 : decode cL_act 147 = .ok (.iload 5, 2) := by decide +kernel
theorem dL_act_149 : decode cL_act 149 = .ok (.iconst 4, 1) := by decide +kernel
theorem dL_act_150 : decode cL_act 150 = .ok (.invokestatic 70, 3) := by decide +kernel
theorem dL_act_153 : decode cL_act 153 = .ok (.iload_n 3, 1) := by decide +kernel
theorem dL_act_154 : decode cL_act 154 = .ok (.iload 4, 2) := by decide +kernel
theorem dL_act_156 : decode cL_act 156 = .ok (.iadd, 1) := by decide +kernel
theorem dL_act_157 : decode cL_act 157 = .ok (.iconst 4, 1) := by decide +kernel
theorem dL_act_158 : decode cL_act 158 = .ok (.invokestatic 70, 3) := by decide +kernel
theorem dL_act_161 : decode cL_act 161 = .ok (.iload 4, 2) := by decide +kernel
theorem dL_act_163 : decode cL_act 163 = .ok (.bipush 9, 2) := by decide +kernel
theorem dL_act_165 : decode cL_act 165 = .ok (.invokestatic 70, 3) := by decide +kernel
theorem dL_act_168 : decode cL_act 168 = .ok (.invokevirtual 76, 3) := by decide +kernel
theorem dL_act_171 : decode cL_act 171 = .ok (.ireturn, 1) := by decide +kernel
theorem dL_act_172 : decode cL_act 172 = .ok (.aload_n 0, 1) := by decide +kernel
theorem dL_act_173 : decode cL_act 173 = .ok (.iload_n 3, 1) := by decide +kernel
theorem dL_act_174 : decode cL_act 174 = .ok (.iconst 4, 1) := by decide +kernel
theorem dL_act_175 : decode cL_act 175 = .ok (.invokestatic 70, 3) := by decide +kernel
theorem dL_act_178 : decode cL_act 178 = .ok (.iload 4, 2) := by decide +kernel
theorem dL_act_180 : decode cL_act 180 = .ok (.iconst 4, 1) := by decide +kernel
theorem dL_act_181 : decode cL_act 181 = .ok (.invokestatic 70, 3) := by decide +kernel
theorem dL_act_184 : decode cL_act 184 = .ok (.invokevirtual 80, 3) := by decide +kernel
theorem dL_act_187 : decode cL_act 187 = .ok (.ireturn, 1) := by decide +kernel
theorem dL_act_188 : decode cL_act 188 = .ok (.aload_n 0, 1) := by decide +kernel
theorem dL_act_189 : decode cL_act 189 = .ok (.iload_n 3, 1) := by decide +kernel
theorem dL_act_190 : decode cL_act 190 = .ok (.iconst 3, 1) := by decide +kernel
theorem dL_act_191 : decode cL_act 191 = .ok (.invokestatic 70, 3) := by decide +kernel
theorem dL_act_194 : decode cL_act 194 = .ok (.iconst 1, 1) := by decide +kernel
theorem dL_act_195 : decode cL_act 195 = .ok (.iload 4, 2) := by decide +kernel
theorem dL_act_197 : decode cL_act 197 = .ok (.bipush 60, 2) := by decide +kernel
theorem dL_act_199 : decode cL_act 199 = .ok (.invokestatic 70, 3) := by decide +kernel
theorem dL_act_202 : decode cL_act 202 = .ok (.iadd, 1) := by decide +kernel
theorem dL_act_203 : decode cL_act 203 = .ok (.invokevirtual 83, 3) := by decide +kernel
theorem dL_act_206 : decode cL_act 206 = .ok (.ireturn, 1) := by decide +kernel
theorem dL_act_207 : decode cL_act 207 = .ok (.aload_n 0, 1) := by decide +kernel
theorem dL_act_208 : decode cL_act 208 = .ok (.iconst 3, 1) := by decide +kernel
theorem dL_act_209 : decode cL_act 209 = .ok (.iload 4, 2) := by decide +kernel
theorem dL_act_211 : decode cL_act 211 = .ok (.iconst 2, 1) := by decide +kernel
theorem dL_act_212 : decode cL_act 212 = .ok (.invokestatic 70, 3) := by decide +kernel
theorem dL_act_215 : decode cL_act 215 = .ok (.invokevirtual 83, 3) := by decide +kernel
theorem dL_act_218 : decode cL_act 218 = .ok (.ireturn, 1) := by decide +kernel
theorem dL_act_219 : decode cL_act 219 = .ok (.aload_n 0, 1) := by decide +kernel
theorem dL_act_220 : decode cL_act 220 = .ok (.iload_n 3, 1) := by decide +kernel
theorem dL_act_221 : decode cL_act 221 = .ok (.iconst 4, 1) := by decide +kernel
theorem dL_act_222 : decode cL_act 222 = .ok (.invokestatic 70, 3) := by decide +kernel
theorem dL_act_225 : decode cL_act 225 = .ok (.invokevirtual 86, 3) := by decide +kernel
theorem dL_act_228 : decode cL_act 228 = .ok (.ireturn, 1) := by decide +kernel
theorem dL_act_229 : decode cL_act 229 = .ok (.aload_n 0, 1) := by decide +kernel
theorem dL_act_230 : decode cL_act 230 = .ok (.iload_n 3, 1) := by decide +kernel
theorem dL_act_231 : decode cL_act 231 = .ok (.iconst 3, 1) := by decide +kernel
theorem dL_act_232 : decode cL_act 232 = .ok (.invokestatic 70, 3) := by decide +kernel
theorem dL_act_235 : decode cL_act 235 = .ok (.iconst 1, 1) := by decide +kernel
theorem dL_act_236 : decode cL_act 236 = .ok (.iload 4, 2) := by decide +kernel
theorem dL_act_238 : decode cL_act 238 = .ok (.bipush 12, 2) := by decide +kernel
theorem dL_act_240 : decode cL_act 240 = .ok (.invokestatic 70, 3) := by decide +kernel
theorem dL_act_243 : decode cL_act 243 = .ok (.iadd, 1) := by decide +kernel
theorem dL_act_244 : decode cL_act 244 = .ok (.invokevirtual 89, 3) := by decide +kernel
theorem dL_act_247 : decode cL_act 247 = .ok (.ireturn, 1) := by decide +kernel
theorem dL_act_248 : decode cL_act 248 = .ok (.iload_n 3, 1) := by decide +kernel
theorem dL_act_249 : decode cL_act 249 = .ok (.iconst 3, 1) := by decide +kernel
theorem dL_act_250 : decode cL_act 250 = .ok (.invokestatic 70, 3) := by decide +kernel
theorem dL_act_253 : decode cL_act 253 = .ok (.ifCond .ne 13, 3) := by decide +kernel
theorem dL_act_256 : decode cL_act 256 = .ok (.aload_n 0, 1) := by decide +kernel
theorem dL_act_257 : decode cL_act 257 = .ok (.iload 4, 2) := by decide +kernel
theorem dL_act_259 : decode cL_act 259 = .ok (.i2l, 1) := by decide +kernel
theorem dL_act_260 : decode cL_act 260 = .ok (.invokevirtual 92, 3) := by decide +kernel
theorem dL_act_263 : decode cL_act 263 = .ok (.goto 4, 3) := by decide +kernel
theorem dL_act_266 : decode cL_act 266 = .ok (.iconst 0, 1) := by decide +kernel
theorem dL_act_267 : decode cL_act 267 = .ok (.ireturn, 1) := by decide +kernel
theorem dL_act_268 : decode cL_act 268 = .ok (.aload_n 0, 1) := by decide +kernel
theorem dL_act_269 : decode cL_act 269 = .ok (.invokestatic 96, 3) := by decide +kernel
theorem dL_act_272 : decode cL_act 272 = .ok (.ireturn, 1) := by decide +kernel
set_option maxRecDepth 20000 in
theorem ggL_law_X4_init : GoodIn wsL_law wsX4_init := goodIn_r _ [5, 6, 7, 8, 9, 10, 11, 12, 13, 14, 15, 16, 17, 18, 19, 20, 21, 22, 23, 24, 25, 26, 27, 28, 29, 30, 31, 32, 33, 34, 35, 36, 37, 38, 39, 40, 41, 42, 43, 44, 45, 46, 47, 48, 49, 50, 51, 52, 53, 54, 55, 56, 57, 58, 59, 60, 61, 62, 63, 64, 379, 380, 381, 382, 383, 384, 385, 386, 387, 388, 389, 390, 373, 374, 375, 376, 377, 378, 391, 392, 393, 394, 395, 396, 397, 398] (by decide +kernel) (by decide +kernel)
set_option maxRecDepth 20000 in
theorem gL_law_X4_init : GoodIn wsL_law (wsX4_init) := ggL_law_X4_init
set_option maxRecDepth 20000 in
theorem ggL_law_X4_count : GoodIn wsL_law wsX4_count := goodIn_ca (goodIn_r _ [68, 69, 70, 12, 71, 72, 17, 73, 74, 75, 76, 11, 77, 38, 78, 2, 79, 373, 374, 375, 376, 377, 378, 379, 380, 381, 382, 383, 384, 385, 386, 387, 388, 389, 390, 391, 392] (by decide +kernel) (by decide +kernel)) (goodIn_sub (fun _ h => List.mem_append_left _ (List.mem_append_left _ (List.mem_append_right _ h))) (by decide +kernel))
set_option maxRecDepth 20000 in
theorem gL_law_X4_count : GoodIn wsL_law (wsV RL 44 RX4 yX4_count wsX4_count) := goodIn_app (goodIn_of _ (by decide +kernel)) ggL_law_X4_count
set_option maxRecDepth 20000 in
theorem ggL_law_X4_sum : GoodIn wsL_law wsX4_sum := goodIn_ca (goodIn_r _ [83, 69, 70, 12, 84, 85, 86, 373, 374, 375, 376, 377, 378, 379, 380, 381, 382, 383, 384, 385, 386, 387, 388, 389, 390] (by decide +kernel) (by decide +kernel)) (goodIn_sub (fun _ h => List.mem_append_left _ (List.mem_append_left _ (List.mem_append_right _ h))) (by decide +kernel))
set_option maxRecDepth 20000 in
theorem gL_law_X4_sum : GoodIn wsL_law (wsV RL 47 RX4 yX4_sum wsX4_sum) := goodIn_app (goodIn_of _ (by decide +kernel)) ggL_law_X4_sum
set_option maxRecDepth 20000 in
theorem ggL_law_L_cell : GoodIn wsL_law wsL_cell := goodIn_r _ [90, 91] (by decide +kernel) (by decide +kernel)
set_option maxRecDepth 20000 in
theorem gL_law_L_cell : GoodIn wsL_law (va_wsS RL 64 yL_cell wsL_cell) := goodIn_app (goodIn_of _ (by decide +kernel)) ggL_law_L_cell
set_option maxRecDepth 20000 in
theorem ggL_law_L_low : GoodIn wsL_law wsL_low := goodIn_r _ [94, 95] (by decide +kernel) (by decide +kernel)
set_option maxRecDepth 20000 in
theorem gL_law_L_low : GoodIn wsL_law (va_wsS RL 70 yL_low wsL_low) := goodIn_app (goodIn_of _ (by decide +kernel)) ggL_law_L_low
set_option maxRecDepth 20000 in
theorem ggL_law_L_act : GoodIn wsL_law wsL_act := goodIn_ca (goodIn_ca (goodIn_ca (goodIn_r _ [98, 87, 88, 89, 90, 91, 92, 93, 94, 95, 99, 100, 101, 2, 102, 69, 70, 17, 12, 103, 21, 104, 105, 106, 107, 108, 109, 110, 111, 112, 113, 114, 16, 115, 116, 49, 117, 118, 119, 120, 121, 122, 123, 124, 125, 126, 127, 11, 128, 33, 129, 130, 131, 132, 34, 35, 36, 37, 38, 39, 133, 40, 134, 42, 43, 135, 136, 137, 138, 78, 79, 139, 140, 141, 142, 143, 144, 20, 145, 57, 146, 147, 148, 149, 150, 151, 152, 153, 154, 155, 156, 157, 158, 159, 160, 161, 162, 163, 164, 165, 166, 167, 168, 169, 170, 171, 172, 173, 174, 175, 176, 177, 178, 179, 180, 74, 75, 76, 77, 181, 182, 183, 184, 185, 41, 186, 187, 188, 189, 190, 191, 192, 193, 194, 195, 196, 197, 198, 199, 200, 201, 202, 203, 204, 71, 205, 206, 207, 208, 209, 210, 211, 212, 213, 214, 55, 215, 216, 217, 218, 219, 220, 221, 222, 223, 58, 224, 225, 226, 227, 228, 229, 230, 231, 232, 59, 233, 234, 235, 236, 237, 238, 239, 240, 241, 242, 243, 244, 245, 246, 247, 248, 249, 250, 251, 252, 253, 254, 255, 72, 256, 257, 258, 259, 260, 27, 261, 262, 263, 264, 265, 266, 267, 268, 269, 270, 271, 272, 273, 274, 275, 276, 277, 278, 279, 280, 281, 282, 283, 284, 285, 286, 287, 73, 288, 289, 290, 291, 373, 374, 375, 376, 377, 378, 379, 380, 381, 382, 383, 384, 385, 386, 387, 388, 389, 390, 391, 392, 393, 394, 395, 396] (by decide +kernel) (by decide +kernel)) (goodIn_sub (fun _ h => List.mem_append_left _ (List.mem_append_left _ (List.mem_append_right _ h))) (by decide +kernel))) (goodIn_sub (fun _ h => List.mem_append_left _ (List.mem_append_right _ h)) (by decide +kernel))) (goodIn_sub (fun _ h => List.mem_append_right _ h) (by decide +kernel))
set_option maxRecDepth 20000 in
theorem gL_law_L_act : GoodIn wsL_law (va_wsS RL 100 yL_act wsL_act) := goodIn_app (goodIn_of _ (by decide +kernel)) ggL_law_L_act
set_option maxRecDepth 20000 in
theorem ggL_law_L_arms : GoodIn wsL_law wsL_arms := goodIn_ca (goodIn_ca (goodIn_r _ [294, 295, 296, 297, 298, 299, 300, 301, 2, 302, 69, 70, 12, 157, 303, 21, 178, 179, 180, 107, 108, 109, 110, 111, 138, 78, 79, 211, 212, 213, 20, 214, 57, 55, 136, 137, 215, 216, 217, 218, 219, 220, 221, 222, 223, 58, 224, 225, 226, 227, 228, 229, 230, 231, 232, 59, 233, 234, 235, 236, 237, 238, 239, 240, 241, 192, 193, 194, 242, 243, 244, 245, 246, 247, 304, 305, 306, 307, 260, 135, 261, 308, 309, 310, 311, 312, 313, 314, 315, 316, 317, 318, 319, 104, 105, 106, 320, 321, 322, 323, 164, 165, 166, 167, 324, 325, 326, 327, 103, 150, 151, 152, 328, 329, 330, 331, 332, 333, 334, 335, 336, 337, 338, 339, 340, 341, 342, 343, 344, 345, 65, 66, 67, 68, 71, 72, 17, 73, 74, 75, 76, 11, 77, 38, 373, 374, 375, 376, 377, 378, 379, 380, 381, 382, 383, 384, 385, 386, 387, 388, 389, 390, 393, 394, 395, 396, 391, 392] (by decide +kernel) (by decide +kernel)) (goodIn_sub (fun _ h => List.mem_append_left _ (List.mem_append_left _ (List.mem_append_right _ h))) (by decide +kernel))) (goodIn_sub (fun _ h => List.mem_append_left _ (List.mem_append_right _ h)) (by decide +kernel))
set_option maxRecDepth 20000 in
theorem gL_law_L_arms : GoodIn wsL_law (va_wsS RL 104 yL_arms wsL_arms) := goodIn_app (goodIn_of _ (by decide +kernel)) ggL_law_L_arms
set_option maxRecDepth 20000 in
theorem ggL_law_L_sums : GoodIn wsL_law wsL_sums := goodIn_ca (goodIn_ca (goodIn_r _ [348, 349, 350, 80, 81, 82, 2, 83, 69, 70, 12, 84, 85, 86, 351, 352, 353, 354, 21, 205, 206, 207, 109, 110, 111, 211, 212, 213, 20, 214, 57, 55, 136, 137, 215, 216, 217, 218, 219, 78, 79, 220, 221, 222, 223, 58, 224, 225, 226, 227, 228, 229, 230, 231, 232, 59, 233, 234, 235, 236, 237, 238, 239, 240, 241, 192, 193, 194, 242, 243, 244, 245, 246, 247, 252, 253, 254, 255, 72, 256, 257, 258, 259, 157, 260, 103, 27, 138, 135, 261, 262, 263, 264, 11, 265, 39, 266, 187, 188, 189, 190, 40, 267, 268, 269, 270, 271, 65, 66, 67, 68, 71, 17, 73, 74, 75, 76, 77, 38, 355, 356, 357, 358, 208, 209, 210, 359, 360, 361, 362, 13, 363, 126, 127, 128, 33, 129, 130, 131, 132, 34, 35, 36, 37, 133, 134, 42, 43, 248, 249, 250, 251, 181, 182, 183, 184, 185, 41, 186, 191, 140, 141, 195, 196, 197, 198, 199, 200, 299, 300, 301, 302, 303, 178, 179, 180, 107, 108, 304, 305, 306, 307, 308, 309, 310, 311, 312, 313, 314, 315, 364, 365, 366, 367, 104, 105, 106, 368, 369, 370, 371, 139, 372, 324, 325, 326, 327, 150, 151, 152, 328, 329, 330, 331, 332, 333, 334, 335, 320, 321, 322, 323, 164, 165, 166, 167, 373, 374, 375, 376, 377, 378, 379, 380, 381, 382, 383, 384, 385, 386, 387, 388, 389, 390, 393, 394, 395, 396, 391, 392] (by decide +kernel) (by decide +kernel)) (goodIn_sub (fun _ h => List.mem_append_left _ (List.mem_append_left _ (List.mem_append_right _ h))) (by decide +kernel))) (goodIn_sub (fun _ h => List.mem_append_left _ (List.mem_append_right _ h)) (by decide +kernel))
set_option maxRecDepth 20000 in
theorem gL_law_L_sums : GoodIn wsL_law (va_wsS RL 108 yL_sums wsL_sums) := goodIn_app (goodIn_of _ (by decide +kernel)) ggL_law_L_sums
theorem dL_law_0 : decode cL_law 0 = .ok (.new 10, 3) := by decide +kernel
theorem dL_law_3 : decode cL_law 3 = .ok (.dup, 1) := by decide +kernel
theorem dL_law_4 : decode cL_law 4 = .ok (.invokespecial 99, 3) := by decide +kernel
theorem dL_law_7 : decode cL_law 7 = .ok (.astore_n 1, 1) := by decide +kernel
theorem dL_law_8 : decode cL_law 8 = .ok (.iconst 1, 1) := by decide +kernel
theorem dL_law_9 : decode cL_law 9 = .ok (.istore_n 2, 1) := by decide +kernel
theorem dL_law_10 : decode cL_law 10 = .ok (.aload_n 0, 1) := by decide +kernel
theorem dL_law_11 : decode cL_law 11 = .ok (.arraylength, 1) := by decide +kernel
theorem dL_law_12 : decode cL_law 12 = .ok (.iconst 4, 1) := by decide +kernel
theorem dL_law_13 : decode cL_law 13 = .ok (.idiv, 1) := by decide +kernel
theorem dL_law_14 : decode cL_law 14 = .ok (.bipush 30, 2) := by decide +kernel
theorem dL_law_16 : decode cL_law 16 = .ok (.if_icmp .le 8, 3) := by decide +kernel
theorem dL_law_19 : decode cL_law 19 = .ok (.bipush 30, 2) := by decide +kernel
theorem dL_law_21 : decode cL_law 21 = .ok (.goto 7, 3) := by decide +kernel
theorem dL_law_24 : decode cL_law 24 = .ok (.aload_n 0, 1) := by decide +kernel
theorem dL_law_25 : decode cL_law 25 = .ok (.arraylength, 1) := by decide +kernel
theorem dL_law_26 : decode cL_law 26 = .ok (.iconst 4, 1) := by decide +kernel
theorem dL_law_27 : decode cL_law 27 = .ok (.idiv, 1) := by decide +kernel
theorem dL_law_28 : decode cL_law 28 = .ok (.istore_n 3, 1) := by decide +kernel
theorem dL_law_29 : decode cL_law 29 = .ok (.iconst 0, 1) := by decide +kernel
theorem dL_law_30 : decode cL_law 30 = .ok (.istore 4, 2) := by decide +kernel
theorem dL_law_32 : decode cL_law 32 = .ok (.iload 4, 2) := by decide +kernel
theorem dL_law_34 : decode cL_law 34 = .ok (.iload_n 3, 1) := by decide +kernel
theorem dL_law_35 : decode cL_law 35 = .ok (.if_icmp .ge 154, 3) := by decide +kernel
theorem dL_law_38 : decode cL_law 38 = .ok (.iload_n 2, 1) := by decide +kernel
theorem dL_law_39 : decode cL_law 39 = .ok (.ifCond .eq 150, 3) := by decide +kernel
theorem dL_law_42 : decode cL_law 42 = .ok (.aload_n 1, 1) := by decide +kernel
theorem dL_law_43 : decode cL_law 43 = .ok (.iconst 3, 1) := by decide +kernel
theorem dL_law_44 : decode cL_law 44 = .ok (.invokevirtual 44, 3) := by decide +kernel
theorem dL_law_47 : decode cL_law 47 = .ok (.istore 5, 2) := by decide +kernel
theorem dL_law_49 : decode cL_law 49 = .ok (.aload_n 1, 1) := by decide +kernel
theorem dL_law_50 : decode cL_law 50 = .ok (.iconst 0, 1) := by decide +kernel
theorem dL_law_51 : decode cL_law 51 = .ok (.invokevirtual 44, 3) := by decide +kernel
theorem dL_law_54 : decode cL_law 54 = .ok (.istore 6, 2) := by decide +kernel
theorem dL_law_56 : decode cL_law 56 = .ok (.aload_n 1, 1) := by decide +kernel
theorem dL_law_57 : decode cL_law 57 = .ok (.iconst 0, 1) := by decide +kernel
theorem dL_law_58 : decode cL_law 58 = .ok (.invokevirtual 47, 3) := by decide +kernel
theorem dL_law_61 : decode cL_law 61 = .ok (.lstore 7, 2) := by decide +kernel
theorem dL_law_63 : decode cL_law 63 = .ok (.aload_n 0, 1) := by decide +kernel
theorem dL_law_64 : decode cL_law 64 = .ok (.iconst 4, 1) := by decide +kernel
theorem dL_law_65 : decode cL_law 65 = .ok (.iload 4, 2) := by decide +kernel
theorem dL_law_67 : decode cL_law 67 = .ok (.imul, 1) := by decide +kernel
theorem dL_law_68 : decode cL_law 68 = .ok (.invokestatic 64, 3) := by decide +kernel
theorem dL_law_71 : decode cL_law 71 = .ok (.bipush 16, 2) := by decide +kernel
theorem dL_law_73 : decode cL_law 73 = .ok (.invokestatic 70, 3) := by decide +kernel
theorem dL_law_76 : decode cL_law 76 = .ok (.istore 9, 2) := by decide +kernel
theorem dL_law_78 : decode cL_law 78 = .ok (.aload_n 1, 1) := by decide +kernel
theorem dL_law_79 : decode cL_law 79 = .ok (.aload_n 0, 1) := by decide +kernel
theorem dL_law_80 : decode cL_law 80 = .ok (.iconst 4, 1) := by decide +kernel
theorem dL_law_81 : decode cL_law 81 = .ok (.iload 4, 2) := by decide +kernel
theorem dL_law_83 : decode cL_law 83 = .ok (.imul, 1) := by decide +kernel
theorem dL_law_84 : decode cL_law 84 = .ok (.invokestatic 100, 3) := by decide +kernel
theorem dL_law_87 : decode cL_law 87 = .ok (.istore 10, 2) := by decide +kernel
theorem dL_law_89 : decode cL_law 89 = .ok (.iload 10, 2) := by decide +kernel
theorem dL_law_91 : decode cL_law 91 = .ok (.ifCond .ge 34, 3) := by decide +kernel
theorem dL_law_94 : decode cL_law 94 = .ok (.aload_n 1, 1) := by decide +kernel
theorem dL_law_95 : decode cL_law 95 = .ok (.iconst 3, 1) := by decide +kernel
theorem dL_law_96 : decode cL_law 96 = .ok (.invokevirtual 44, 3) := by decide +kernel
theorem dL_law_99 : decode cL_law 99 = .ok (.iload 5, 2) := by decide +kernel
theorem dL_law_101 : decode cL_law 101 = .ok (.if_icmp .ne 80, 3) := by decide +kernel
theorem dL_law_104 : decode cL_law 104 = .ok (.aload_n 1, 1) := by decide +kernel
theorem dL_law_105 : decode cL_law 105 = .ok (.iconst 0, 1) := by decide +kernel
theorem dL_law_106 : decode cL_law 106 = .ok (.invokevirtual 44, 3) := by decide +kernel
theorem dL_law_109 : decode cL_law 109 = .ok (.iload 6, 2) := by decide +kernel
theorem dL_law_111 : decode cL_law 111 = .ok (.if_icmp .ne 70, 3) := by decide +kernel
theorem dL_law_114 : decode cL_law 114 = .ok (.aload_n 1, 1) := by decide +kernel
theorem dL_law_115 : decode cL_law 115 = .ok (.iconst 0, 1) := by decide +kernel
theorem dL_law_116 : decode cL_law 116 = .ok (.invokevirtual 47, 3) := by decide +kernel
theorem dL_law_119 : decode cL_law 119 = .ok (.lload 7, 2) := by decide +kernel
theorem dL_law_121 : decode cL_law 121 = .ok (.lcmp, 1) := by decide +kernel
theorem dL_law_122 : decode cL_law 122 = .ok (.ifCond .ne 59, 3) := by decide +kernel
theorem dL_law_125 : decode cL_law 125 = .ok (.iload 9, 2) := by decide +kernel
theorem dL_law_127 : decode cL_law 127 = .ok (.bipush 10, 2) := by decide +kernel
theorem dL_law_129 : decode cL_law 129 = .ok (.if_icmp .ge 17, 3) := by decide +kernel
theorem dL_law_132 : decode cL_law 132 = .ok (.aload_n 1, 1) := by decide +kernel
theorem dL_law_133 : decode cL_law 133 = .ok (.iconst 0, 1) := by decide +kernel
theorem dL_law_134 : decode cL_law 134 = .ok (.invokevirtual 47, 3) := by decide +kernel
theorem dL_law_137 : decode cL_law 137 = .ok (.lload 7, 2) := by decide +kernel
theorem dL_law_139 : decode cL_law 139 = .ok (.lcmp, 1) := by decide +kernel
theorem dL_law_140 : decode cL_law 140 = .ok (.ifCond .ne 41, 3) := by decide +kernel
theorem dL_law_143 : decode cL_law 143 = .ok (.goto 20, 3) := by decide +kernel
theorem dL_law_146 : decode cL_law 146 = .ok (.iload 9, 2) := by decide +kernel
theorem dL_law_148 : decode cL_law 148 = .ok (.bipush 13, 2) := by decide +kernel
theorem dL_law_150 : decode cL_law 150 = .ok (.if_icmp .gt 13, 3) := by decide +kernel
theorem dL_law_153 : decode cL_law 153 = .ok (.aload_n 1, 1) := by decide +kernel
theorem dL_law_154 : decode cL_law 154 = .ok (.iconst 0, 1) := by decide +kernel
theorem dL_law_155 : decode cL_law 155 = .ok (.invokevirtual 44, 3) := by decide +kernel
theorem dL_law_158 : decode cL_law 158 = .ok (.iload 6, 2) := by decide +kernel
theorem dL_law_160 : decode cL_law 160 = .ok (.if_icmp .le 21, 3) := by decide +kernel
theorem dL_law_163 : decode cL_law 163 = .ok (.aload_n 1, 1) := by decide +kernel
theorem dL_law_164 : decode cL_law 164 = .ok (.invokestatic 104, 3) := by decide +kernel
theorem dL_law_167 : decode cL_law 167 = .ok (.ifCond .eq 14, 3) := by decide +kernel
theorem dL_law_170 : decode cL_law 170 = .ok (.aload_n 1, 1) := by decide +kernel
theorem dL_law_171 : decode cL_law 171 = .ok (.invokestatic 108, 3) := by decide +kernel
theorem dL_law_174 : decode cL_law 174 = .ok (.ifCond .eq 7, 3) := by decide +kernel
theorem dL_law_177 : decode cL_law 177 = .ok (.iconst 1, 1) := by decide +kernel
theorem dL_law_178 : decode cL_law 178 = .ok (.goto 4, 3) := by decide +kernel
theorem dL_law_181 : decode cL_law 181 = .ok (.iconst 0, 1) := by decide +kernel
theorem dL_law_182 : decode cL_law 182 = .ok (.istore_n 2, 1) := by decide +kernel
theorem dL_law_183 : decode cL_law 183 = .ok (.iinc 4 1, 3) := by decide +kernel
theorem dL_law_186 : decode cL_law 186 = .ok (.goto (-154), 3) := by decide +kernel
theorem dL_law_189 : decode cL_law 189 = .ok (.iload_n 2, 1) := by decide +kernel
theorem dL_law_190 : decode cL_law 190 = .ok (.ireturn, 1) := by decide +kernel
