theorem dL_areMirrored_288 : decode cL_areMirrored 288 = .ok (.if_icmp .ne 7, 3) := by decide +kernel
theorem dL_areMirrored_291 : decode cL_areMirrored 291 = .ok (.iconst 1, 1) := by decide +kernel
theorem dL_areMirrored_292 : decode cL_areMirrored 292 = .ok (.goto 4, 3) := by decide +kernel
theorem dL_areMirrored_295 : decode cL_areMirrored 295 = .ok (.iconst 0, 1) := by decide +kernel
theorem dL_areMirrored_296 : decode cL_areMirrored 296 = .ok (.ireturn, 1) := by decide +kernel
set_option maxRecDepth 20000 in
theorem ggL_isGrownRight_X1_look : GoodIn wsL_isGrownRight wsX1_look := goodIn_ca (goodIn_r _ [5, 6, 7, 8, 4, 9, 10, 11, 12, 13, 14, 15, 16, 17, 18, 19, 20, 21, 22, 23, 24, 25, 26, 27, 28, 29, 30, 31, 32, 33, 34, 110, 111, 112, 113, 114, 115, 116, 117, 118, 119, 120, 121, 122] (by decide +kernel) (by decide +kernel)) (goodIn_sub (fun _ h => List.mem_cons_of_mem _ (List.mem_append_right _ h)) (by decide +kernel))
set_option maxRecDepth 20000 in
theorem gL_isGrownRight_X1_look : GoodIn wsL_isGrownRight (wsV RL 38 RX1 yX1_look wsX1_look) := goodIn_app (goodIn_of _ (by decide +kernel)) ggL_isGrownRight_X1_look
set_option maxRecDepth 20000 in
theorem ggL_isGrownRight_X1_shadeOf : GoodIn wsL_isGrownRight wsX1_shadeOf := goodIn_ca (goodIn_r _ [38, 6, 7, 8, 4, 9, 10, 11, 12, 13, 14, 39, 40, 41, 18, 42, 20, 21, 22, 23, 24, 110, 111, 112, 113, 114, 115, 116, 117, 118, 119, 120, 121, 122] (by decide +kernel) (by decide +kernel)) (goodIn_sub (fun _ h => List.mem_cons_of_mem _ (List.mem_append_right _ h)) (by decide +kernel))
set_option maxRecDepth 20000 in
theorem gL_isGrownRight_X1_shadeOf : GoodIn wsL_isGrownRight (wsV RL 42 RX1 yX1_shadeOf wsX1_shadeOf) := goodIn_app (goodIn_of _ (by decide +kernel)) ggL_isGrownRight_X1_shadeOf
set_option maxRecDepth 20000 in
theorem ggL_isGrownRight_X1_holdersOf : GoodIn wsL_isGrownRight wsX1_holdersOf := goodIn_ca (goodIn_r _ [46, 6, 47, 7, 8, 4, 9, 10, 11, 12, 13, 14, 48, 49, 50, 18, 51, 52, 53, 54, 55, 20, 21, 22, 23, 24, 56, 57, 58, 59, 60, 61, 62, 63, 64, 65, 110, 111, 112, 113, 114, 115, 116, 117, 118, 119, 120, 121, 122] (by decide +kernel) (by decide +kernel)) (goodIn_sub (fun _ h => List.mem_cons_of_mem _ (List.mem_append_right _ h)) (by decide +kernel))
set_option maxRecDepth 20000 in
theorem gL_isGrownRight_X1_holdersOf : GoodIn wsL_isGrownRight (wsV RL 45 RX1 yX1_holdersOf wsX1_holdersOf) := goodIn_app (goodIn_of _ (by decide +kernel)) ggL_isGrownRight_X1_holdersOf
set_option maxRecDepth 20000 in
theorem ggL_isGrownRight_X1_neighboursOf : GoodIn wsL_isGrownRight wsX1_neighboursOf := goodIn_ca (goodIn_r _ [69, 6, 47, 7, 8, 4, 9, 10, 11, 12, 13, 14, 70, 71, 72, 18, 73, 52, 53, 54, 55, 20, 21, 22, 23, 24, 74, 75, 76, 59, 60, 61, 62, 63, 64, 65, 110, 111, 112, 113, 114, 115, 116, 117, 118, 119, 120, 121, 122] (by decide +kernel) (by decide +kernel)) (goodIn_sub (fun _ h => List.mem_cons_of_mem _ (List.mem_append_right _ h)) (by decide +kernel))
set_option maxRecDepth 20000 in
theorem gL_isGrownRight_X1_neighboursOf : GoodIn wsL_isGrownRight (wsV RL 48 RX1 yX1_neighboursOf wsX1_neighboursOf) := goodIn_app (goodIn_of _ (by decide +kernel)) ggL_isGrownRight_X1_neighboursOf
set_option maxRecDepth 20000 in
theorem ggL_isGrownRight_X1_leavesIn : GoodIn wsL_isGrownRight wsX1_leavesIn := goodIn_ca (goodIn_r _ [80, 6, 81, 82, 4, 83, 10, 11, 84, 85, 86, 18, 87, 88, 40, 41, 42, 20, 21, 22, 23, 24, 110, 111, 112, 113, 114, 115, 116, 117, 118, 119, 120, 121, 122] (by decide +kernel) (by decide +kernel)) (goodIn_sub (fun _ h => List.mem_cons_of_mem _ (List.mem_append_right _ h)) (by decide +kernel))
set_option maxRecDepth 20000 in
theorem gL_isGrownRight_X1_leavesIn : GoodIn wsL_isGrownRight (wsV RL 51 RX1 yX1_leavesIn wsX1_leavesIn) := goodIn_app (goodIn_of _ (by decide +kernel)) ggL_isGrownRight_X1_leavesIn
set_option maxRecDepth 20000 in
theorem ggL_isGrownRight_X1_leaves : GoodIn wsL_isGrownRight wsX1_leaves := goodIn_r _ [92, 6, 93, 94, 95, 18, 96, 24, 59, 60, 61, 62, 63, 64, 65, 110, 111, 112, 113, 114, 115, 116, 117, 118, 119, 120, 121, 122] (by decide +kernel) (by decide +kernel)
set_option maxRecDepth 20000 in
theorem gL_isGrownRight_X1_leaves : GoodIn wsL_isGrownRight (wsV RL 20 RX1 yX1_leaves wsX1_leaves) := goodIn_app (goodIn_of _ (by decide +kernel)) ggL_isGrownRight_X1_leaves
set_option maxRecDepth 20000 in
theorem ggL_isGrownRight_X1_lit : GoodIn wsL_isGrownRight wsX1_lit := goodIn_r _ [100, 6, 101, 102, 103, 18, 104, 24, 59, 60, 61, 62, 63, 64, 65, 110, 111, 112, 113, 114, 115, 116, 117, 118, 119, 120, 121, 122] (by decide +kernel) (by decide +kernel)
set_option maxRecDepth 20000 in
theorem gL_isGrownRight_X1_lit : GoodIn wsL_isGrownRight (wsV RL 23 RX1 yX1_lit wsX1_lit) := goodIn_app (goodIn_of _ (by decide +kernel)) ggL_isGrownRight_X1_lit
set_option maxRecDepth 20000 in
theorem ggL_isGrownRight_X1_cutsLeft : GoodIn wsL_isGrownRight wsX1_cutsLeft := goodIn_r _ [108, 109, 110, 111, 112, 113, 114, 115, 116, 117, 118, 119, 120] (by decide +kernel) (by decide +kernel)
set_option maxRecDepth 20000 in
theorem gL_isGrownRight_X1_cutsLeft : GoodIn wsL_isGrownRight (wsV RL 29 RX1 yX1_cutsLeft wsX1_cutsLeft) := goodIn_app (goodIn_of _ (by decide +kernel)) ggL_isGrownRight_X1_cutsLeft
theorem dL_isGrownRight_0 : decode cL_isGrownRight 0 = .ok (.iconst 0, 1) := by decide +kernel
theorem dL_isGrownRight_1 : decode cL_isGrownRight 1 = .ok (.istore_n 2, 1) := by decide +kernel
theorem dL_isGrownRight_2 : decode cL_isGrownRight 2 = .ok (.iconst 0, 1) := by decide +kernel
theorem dL_isGrownRight_3 : decode cL_isGrownRight 3 = .ok (.istore_n 3, 1) := by decide +kernel
theorem dL_isGrownRight_4 : decode cL_isGrownRight 4 = .ok (.iconst 1, 1) := by decide +kernel
theorem dL_isGrownRight_5 : decode cL_isGrownRight 5 = .ok (.istore 4, 2) := by decide +kernel
theorem dL_isGrownRight_7 : decode cL_isGrownRight 7 = .ok (.iconst 0, 1) := by decide +kernel
theorem dL_isGrownRight_8 : decode cL_isGrownRight 8 = .ok (.istore 5, 2) := by decide +kernel
theorem dL_isGrownRight_10 : decode cL_isGrownRight 10 = .ok (.iload 5, 2) := by decide +kernel
theorem dL_isGrownRight_12 : decode cL_isGrownRight 12 = .ok (.bipush 12, 2) := by decide +kernel
theorem dL_isGrownRight_14 : decode cL_isGrownRight 14 = .ok (.if_icmp .ge 174, 3) := by decide +kernel
theorem dL_isGrownRight_17 : decode cL_isGrownRight 17 = .ok (.iconst 0, 1) := by decide +kernel
theorem dL_isGrownRight_18 : decode cL_isGrownRight 18 = .ok (.istore 6, 2) := by decide +kernel
theorem dL_isGrownRight_20 : decode cL_isGrownRight 20 = .ok (.bipush 7, 2) := by decide +kernel
theorem dL_isGrownRight_22 : decode cL_isGrownRight 22 = .ok (.istore 7, 2) := by decide +kernel
theorem dL_isGrownRight_24 : decode cL_isGrownRight 24 = .ok (.iload 7, 2) := by decide +kernel
theorem dL_isGrownRight_26 : decode cL_isGrownRight 26 = .ok (.ifCond .lt 119, 3) := by decide +kernel
theorem dL_isGrownRight_29 : decode cL_isGrownRight 29 = .ok (.aload_n 0, 1) := by decide +kernel
theorem dL_isGrownRight_30 : decode cL_isGrownRight 30 = .ok (.iload 7, 2) := by decide +kernel
theorem dL_isGrownRight_32 : decode cL_isGrownRight 32 = .ok (.iload 5, 2) := by decide +kernel
theorem dL_isGrownRight_34 : decode cL_isGrownRight 34 = .ok (.invokevirtual 38, 3) := by decide +kernel
theorem dL_isGrownRight_37 : decode cL_isGrownRight 37 = .ok (.bipush 35, 2) := by decide +kernel
theorem dL_isGrownRight_39 : decode cL_isGrownRight 39 = .ok (.if_icmp .ne 7, 3) := by decide +kernel
theorem dL_isGrownRight_42 : decode cL_isGrownRight 42 = .ok (.iconst 1, 1) := by decide +kernel
theorem dL_isGrownRight_43 : decode cL_isGrownRight 43 = .ok (.goto 4, 3) := by decide +kernel
theorem dL_isGrownRight_46 : decode cL_isGrownRight 46 = .ok (.iconst 0, 1) := by decide +kernel
theorem dL_isGrownRight_47 : decode cL_isGrownRight 47 = .ok (.istore 8, 2) := by decide +kernel
theorem dL_isGrownRight_49 : decode cL_isGrownRight 49 = .ok (.iload 4, 2) := by decide +kernel
theorem dL_isGrownRight_51 : decode cL_isGrownRight 51 = .ok (.ifCond .eq 52, 3) := by decide +kernel
theorem dL_isGrownRight_54 : decode cL_isGrownRight 54 = .ok (.aload_n 0, 1) := by decide +kernel
theorem dL_isGrownRight_55 : decode cL_isGrownRight 55 = .ok (.iload 7, 2) := by decide +kernel
theorem dL_isGrownRight_57 : decode cL_isGrownRight 57 = .ok (.iload 5, 2) := by decide +kernel
theorem dL_isGrownRight_59 : decode cL_isGrownRight 59 = .ok (.invokevirtual 42, 3) := by decide +kernel
theorem dL_isGrownRight_62 : decode cL_isGrownRight 62 = .ok (.iload 6, 2) := by decide +kernel
theorem dL_isGrownRight_64 : decode cL_isGrownRight 64 = .ok (.if_icmp .ne 39, 3) := by decide +kernel
theorem dL_isGrownRight_67 : decode cL_isGrownRight 67 = .ok (.aload_n 0, 1) := by decide +kernel
theorem dL_isGrownRight_68 : decode cL_isGrownRight 68 = .ok (.iload 7, 2) := by decide +kernel
theorem dL_isGrownRight_70 : decode cL_isGrownRight 70 = .ok (.iload 5, 2) := by decide +kernel
theorem dL_isGrownRight_72 : decode cL_isGrownRight 72 = .ok (.invokevirtual 45, 3) := by decide +kernel
theorem dL_isGrownRight_75 : decode cL_isGrownRight 75 = .ok (.aload_n 0, 1) := by decide +kernel
theorem dL_isGrownRight_76 : decode cL_isGrownRight 76 = .ok (.iload 7, 2) := by decide +kernel
theorem dL_isGrownRight_78 : decode cL_isGrownRight 78 = .ok (.iload 5, 2) := by decide +kernel
theorem dL_isGrownRight_80 : decode cL_isGrownRight 80 = .ok (.invokevirtual 48, 3) := by decide +kernel
theorem dL_isGrownRight_83 : decode cL_isGrownRight 83 = .ok (.if_icmp .gt 20, 3) := by decide +kernel
theorem dL_isGrownRight_86 : decode cL_isGrownRight 86 = .ok (.aload_n 0, 1) := by decide +kernel
theorem dL_isGrownRight_87 : decode cL_isGrownRight 87 = .ok (.iload 7, 2) := by decide +kernel
theorem dL_isGrownRight_89 : decode cL_isGrownRight 89 = .ok (.iload 5, 2) := by decide +kernel
theorem dL_isGrownRight_91 : decode cL_isGrownRight 91 = .ok (.invokevirtual 38, 3) := by decide +kernel
theorem dL_isGrownRight_94 : decode cL_isGrownRight 94 = .ok (.bipush 120, 2) := by decide +kernel
theorem dL_isGrownRight_96 : decode cL_isGrownRight 96 = .ok (.if_icmp .eq 7, 3) := by decide +kernel
theorem dL_isGrownRight_99 : decode cL_isGrownRight 99 = .ok (.iconst 1, 1) := by decide +kernel
theorem dL_isGrownRight_100 : decode cL_isGrownRight 100 = .ok (.goto 4, 3) := by decide +kernel
theorem dL_isGrownRight_103 : decode cL_isGrownRight 103 = .ok (.iconst 0, 1) := by decide +kernel
theorem dL_isGrownRight_104 : decode cL_isGrownRight 104 = .ok (.istore 4, 2) := by decide +kernel
theorem dL_isGrownRight_106 : decode cL_isGrownRight 106 = .ok (.iload_n 3, 1) := by decide +kernel
theorem dL_isGrownRight_107 : decode cL_isGrownRight 107 = .ok (.iload 8, 2) := by decide +kernel
theorem dL_isGrownRight_109 : decode cL_isGrownRight 109 = .ok (.ifCond .eq 12, 3) := by decide +kernel
theorem dL_isGrownRight_112 : decode cL_isGrownRight 112 = .ok (.iload 6, 2) := by decide +kernel
theorem dL_isGrownRight_114 : decode cL_isGrownRight 114 = .ok (.ifCond .ne 7, 3) := by decide +kernel
theorem dL_isGrownRight_117 : decode cL_isGrownRight 117 = .ok (.iconst 1, 1) := by decide +kernel
theorem dL_isGrownRight_118 : decode cL_isGrownRight 118 = .ok (.goto 4, 3) := by decide +kernel
theorem dL_isGrownRight_121 : decode cL_isGrownRight 121 = .ok (.iconst 0, 1) := by decide +kernel
theorem dL_isGrownRight_122 : decode cL_isGrownRight 122 = .ok (.iadd, 1) := by decide +kernel
theorem dL_isGrownRight_123 : decode cL_isGrownRight 123 = .ok (.istore_n 3, 1) := by decide +kernel
theorem dL_isGrownRight_124 : decode cL_isGrownRight 124 = .ok (.iload 6, 2) := by decide +kernel
theorem dL_isGrownRight_126 : decode cL_isGrownRight 126 = .ok (.iload 8, 2) := by decide +kernel
theorem dL_isGrownRight_128 : decode cL_isGrownRight 128 = .ok (.ifCond .eq 7, 3) := by decide +kernel
theorem dL_isGrownRight_131 : decode cL_isGrownRight 131 = .ok (.iconst 1, 1) := by decide +kernel
theorem dL_isGrownRight_132 : decode cL_isGrownRight 132 = .ok (.goto 4, 3) := by decide +kernel
theorem dL_isGrownRight_135 : decode cL_isGrownRight 135 = .ok (.iconst 0, 1) := by decide +kernel
theorem dL_isGrownRight_136 : decode cL_isGrownRight 136 = .ok (.iadd, 1) := by decide +kernel
theorem dL_isGrownRight_137 : decode cL_isGrownRight 137 = .ok (.istore 6, 2) := by decide +kernel
theorem dL_isGrownRight_139 : decode cL_isGrownRight 139 = .ok (.iinc 7 (-1), 3) := by decide +kernel
theorem dL_isGrownRight_142 : decode cL_isGrownRight 142 = .ok (.goto (-118), 3) := by decide +kernel
theorem dL_isGrownRight_145 : decode cL_isGrownRight 145 = .ok (.iload_n 2, 1) := by decide +kernel
theorem dL_isGrownRight_146 : decode cL_isGrownRight 146 = .ok (.iload 6, 2) := by decide +kernel
theorem dL_isGrownRight_148 : decode cL_isGrownRight 148 = .ok (.iadd, 1) := by decide +kernel
theorem dL_isGrownRight_149 : decode cL_isGrownRight 149 = .ok (.istore_n 2, 1) := by decide +kernel
theorem dL_isGrownRight_150 : decode cL_isGrownRight 150 = .ok (.iload 4, 2) := by decide +kernel
theorem dL_isGrownRight_152 : decode cL_isGrownRight 152 = .ok (.ifCond .eq 27, 3) := by decide +kernel
theorem dL_isGrownRight_155 : decode cL_isGrownRight 155 = .ok (.aload_n 0, 1) := by decide +kernel
theorem dL_isGrownRight_156 : decode cL_isGrownRight 156 = .ok (.iload 5, 2) := by decide +kernel
theorem dL_isGrownRight_158 : decode cL_isGrownRight 158 = .ok (.invokevirtual 51, 3) := by decide +kernel
theorem dL_isGrownRight_161 : decode cL_isGrownRight 161 = .ok (.iload 6, 2) := by decide +kernel
theorem dL_isGrownRight_163 : decode cL_isGrownRight 163 = .ok (.if_icmp .ne 16, 3) := by decide +kernel
theorem dL_isGrownRight_166 : decode cL_isGrownRight 166 = .ok (.iload 6, 2) := by decide +kernel
theorem dL_isGrownRight_168 : decode cL_isGrownRight 168 = .ok (.aload_n 1, 1) := by decide +kernel
theorem dL_isGrownRight_169 : decode cL_isGrownRight 169 = .ok (.iload 5, 2) := by decide +kernel
theorem dL_isGrownRight_171 : decode cL_isGrownRight 171 = .ok (.iaload, 1) := by decide +kernel
theorem dL_isGrownRight_172 : decode cL_isGrownRight 172 = .ok (.if_icmp .gt 7, 3) := by decide +kernel
theorem dL_isGrownRight_175 : decode cL_isGrownRight 175 = .ok (.iconst 1, 1) := by decide +kernel
theorem dL_isGrownRight_176 : decode cL_isGrownRight 176 = .ok (.goto 4, 3) := by decide +kernel
theorem dL_isGrownRight_179 : decode cL_isGrownRight 179 = .ok (.iconst 0, 1) := by decide +kernel
theorem dL_isGrownRight_180 : decode cL_isGrownRight 180 = .ok (.istore 4, 2) := by decide +kernel
theorem dL_isGrownRight_182 : decode cL_isGrownRight 182 = .ok (.iinc 5 1, 3) := by decide +kernel
theorem dL_isGrownRight_185 : decode cL_isGrownRight 185 = .ok (.goto (-175), 3) := by decide +kernel
theorem dL_isGrownRight_188 : decode cL_isGrownRight 188 = .ok (.iload 4, 2) := by decide +kernel
theorem dL_isGrownRight_190 : decode cL_isGrownRight 190 = .ok (.ifCond .eq 40, 3) := by decide +kernel
theorem dL_isGrownRight_193 : decode cL_isGrownRight 193 = .ok (.aload_n 0, 1) := by decide +kernel
theorem dL_isGrownRight_194 : decode cL_isGrownRight 194 = .ok (.invokevirtual 20, 3) := by decide +kernel
theorem dL_isGrownRight_197 : decode cL_isGrownRight 197 = .ok (.iload_n 2, 1) := by decide +kernel
theorem dL_isGrownRight_198 : decode cL_isGrownRight 198 = .ok (.if_icmp .ne 32, 3) := by decide +kernel
theorem dL_isGrownRight_201 : decode cL_isGrownRight 201 = .ok (.aload_n 0, 1) := by decide +kernel
theorem dL_isGrownRight_202 : decode cL_isGrownRight 202 = .ok (.invokevirtual 23, 3) := by decide +kernel
theorem dL_isGrownRight_205 : decode cL_isGrownRight 205 = .ok (.iload_n 3, 1) := by decide +kernel
theorem dL_isGrownRight_206 : decode cL_isGrownRight 206 = .ok (.if_icmp .ne 24, 3) := by decide +kernel
theorem dL_isGrownRight_209 : decode cL_isGrownRight 209 = .ok (.aload_n 0, 1) := by decide +kernel
theorem dL_isGrownRight_210 : decode cL_isGrownRight 210 = .ok (.invokevirtual 23, 3) := by decide +kernel
theorem dL_isGrownRight_213 : decode cL_isGrownRight 213 = .ok (.bipush 12, 2) := by decide +kernel
theorem dL_isGrownRight_215 : decode cL_isGrownRight 215 = .ok (.if_icmp .gt 15, 3) := by decide +kernel
theorem dL_isGrownRight_218 : decode cL_isGrownRight 218 = .ok (.aload_n 0, 1) := by decide +kernel
theorem dL_isGrownRight_219 : decode cL_isGrownRight 219 = .ok (.invokevirtual 29, 3) := by decide +kernel
theorem dL_isGrownRight_222 : decode cL_isGrownRight 222 = .ok (.iconst 3, 1) := by decide +kernel
theorem dL_isGrownRight_223 : decode cL_isGrownRight 223 = .ok (.if_icmp .ne 7, 3) := by decide +kernel
theorem dL_isGrownRight_226 : decode cL_isGrownRight 226 = .ok (.iconst 1, 1) := by decide +kernel
theorem dL_isGrownRight_227 : decode cL_isGrownRight 227 = .ok (.goto 4, 3) := by decide +kernel
theorem dL_isGrownRight_230 : decode cL_isGrownRight 230 = .ok (.iconst 0, 1) := by decide +kernel
theorem dL_isGrownRight_231 : decode cL_isGrownRight 231 = .ok (.ireturn, 1) := by decide +kernel
set_option maxRecDepth 20000 in
theorem ggL_law_X1_init : GoodIn wsL_law wsX1_init := goodIn_r _ [6, 7, 8, 9, 10, 11, 12, 13, 14, 15, 16, 17, 18, 3, 19, 20, 21, 22, 23, 24, 25, 26, 27, 28, 29, 260, 261, 249, 250, 251, 252, 253, 254, 255, 256, 257, 258, 259] (by decide +kernel) (by decide +kernel)
set_option maxRecDepth 20000 in
theorem gL_law_X1_init : GoodIn wsL_law (wsX1_init) := ggL_law_X1_init
set_option maxRecDepth 20000 in
theorem ggL_law_L_drawn : GoodIn wsL_law wsL_drawn := goodIn_r _ [33, 34] (by decide +kernel) (by decide +kernel)
set_option maxRecDepth 20000 in
theorem gL_law_L_drawn : GoodIn wsL_law (va_wsS RL 59 yL_drawn wsL_drawn) := goodIn_app (goodIn_of _ (by decide +kernel)) ggL_law_L_drawn
set_option maxRecDepth 20000 in
theorem ggL_law_X1_sides : GoodIn wsL_law wsX1_sides := goodIn_ca (goodIn_ca (goodIn_r _ [38, 39, 40, 41, 42, 23, 20, 249, 250, 251, 252, 253, 254, 255, 256, 257, 258, 259] (by decide +kernel) (by decide +kernel)) (goodIn_sub (fun _ h => List.mem_append_left _ (List.mem_append_left _ (List.mem_append_right _ h))) (by decide +kernel))) (goodIn_sub (fun _ h => List.mem_append_left _ (List.mem_append_right _ h)) (by decide +kernel))
set_option maxRecDepth 20000 in
theorem gL_law_X1_sides : GoodIn wsL_law (wsV RL 65 RX1 yX1_sides wsX1_sides) := goodIn_app (goodIn_of _ (by decide +kernel)) ggL_law_X1_sides
set_option maxRecDepth 20000 in
theorem ggL_law_X1_look : GoodIn wsL_law wsX1_look := goodIn_ca (goodIn_r _ [46, 13, 47, 48, 2, 49, 50, 51, 52, 53, 54, 55, 56, 57, 12, 58, 59, 60, 61, 62, 28, 63, 64, 65, 66, 67, 68, 69, 70, 71, 29, 249, 250, 251, 252, 253, 254, 255, 256, 257, 258, 259, 260, 261] (by decide +kernel) (by decide +kernel)) (goodIn_sub (fun _ h => List.mem_append_right _ h) (by decide +kernel))
set_option maxRecDepth 20000 in
theorem gL_law_X1_look : GoodIn wsL_law (wsV RL 38 RX1 yX1_look wsX1_look) := goodIn_app (goodIn_of _ (by decide +kernel)) ggL_law_X1_look
set_option maxRecDepth 20000 in
theorem ggL_law_X1_plant : GoodIn wsL_law wsX1_plant := goodIn_ca (goodIn_ca (goodIn_r _ [75, 41, 42, 13, 21, 76, 77, 2, 78, 50, 51, 63, 64, 65, 12, 66, 67, 56, 57, 58, 59, 60, 61, 62, 28, 68, 69, 70, 71, 29, 79, 80, 81, 82, 53, 54, 249, 250, 251, 252, 253, 254, 255, 256, 257, 258, 259, 260, 261] (by decide +kernel) (by decide +kernel)) (goodIn_sub (fun _ h => List.mem_append_left _ (List.mem_append_right _ h)) (by decide +kernel))) (goodIn_sub (fun _ h => List.mem_append_right _ h) (by decide +kernel))
set_option maxRecDepth 20000 in
theorem gL_law_X1_plant : GoodIn wsL_law (wsV RL 69 RX1 yX1_plant wsX1_plant) := goodIn_app (goodIn_of _ (by decide +kernel)) ggL_law_X1_plant
set_option maxRecDepth 20000 in
theorem ggL_law_L_cutsAfter : GoodIn wsL_law wsL_cutsAfter := goodIn_ca (goodIn_ca (goodIn_r _ [85, 86, 87, 88, 89, 2, 90, 41, 42, 13, 22, 47, 48, 49, 50, 51, 52, 53, 54, 55, 56, 57, 12, 58, 59, 60, 61, 62, 28, 91, 92, 93, 94, 95, 96, 97, 98, 29, 99, 100, 101, 102, 249, 250, 251, 252, 253, 254, 255, 256, 257, 258, 259, 260, 261] (by decide +kernel) (by decide +kernel)) (goodIn_sub (fun _ h => List.mem_append_left _ (List.mem_append_right _ h)) (by decide +kernel))) (goodIn_sub (fun _ h => List.mem_append_right _ h) (by decide +kernel))
set_option maxRecDepth 20000 in
theorem gL_law_L_cutsAfter : GoodIn wsL_law (va_wsS RL 72 yL_cutsAfter wsL_cutsAfter) := goodIn_app (goodIn_of _ (by decide +kernel)) ggL_law_L_cutsAfter
set_option maxRecDepth 20000 in
theorem ggL_law_X1_trellis : GoodIn wsL_law wsX1_trellis := goodIn_ca (goodIn_ca (goodIn_r _ [106, 39, 40, 19, 76, 77, 2, 78, 50, 51, 249, 250, 251, 252, 253, 254, 255, 256, 257, 258, 259] (by decide +kernel) (by decide +kernel)) (goodIn_sub (fun _ h => List.mem_append_left _ (List.mem_append_left _ (List.mem_append_right _ h))) (by decide +kernel))) (goodIn_sub (fun _ h => List.mem_append_right _ h) (by decide +kernel))
set_option maxRecDepth 20000 in
theorem gL_law_X1_trellis : GoodIn wsL_law (wsV RL 76 RX1 yX1_trellis wsX1_trellis) := goodIn_app (goodIn_of _ (by decide +kernel)) ggL_law_X1_trellis
set_option maxRecDepth 20000 in
theorem ggL_law_X1_leaves : GoodIn wsL_law wsX1_leaves := goodIn_r _ [110, 13, 111, 112, 113, 12, 114, 28, 115, 116, 117, 118, 119, 120, 121, 249, 250, 251, 252, 253, 254, 255, 256, 257, 258, 259, 260, 261] (by decide +kernel) (by decide +kernel)
set_option maxRecDepth 20000 in
theorem gL_law_X1_leaves : GoodIn wsL_law (wsV RL 20 RX1 yX1_leaves wsX1_leaves) := goodIn_app (goodIn_of _ (by decide +kernel)) ggL_law_X1_leaves
set_option maxRecDepth 20000 in
theorem ggL_law_X1_leavesNext : GoodIn wsL_law wsX1_leavesNext := goodIn_r _ [125, 15, 13, 20, 19, 126, 127, 128, 12, 129, 28, 29, 130, 131, 132, 133, 59, 60, 61, 62, 134, 135, 136, 137, 138, 139, 140, 115, 116, 117, 118, 119, 120, 121, 141, 142, 143, 144, 145, 146, 147, 68, 69, 70, 71, 148, 149, 150, 151, 67, 56, 57, 58, 152, 153, 154, 155, 156, 157, 158, 159, 99, 100, 101, 102, 53, 2, 54, 111, 112, 113, 114, 249, 250, 251, 252, 253, 254, 255, 256, 257, 258, 259, 260, 261] (by decide +kernel) (by decide +kernel)
set_option maxRecDepth 20000 in
theorem gL_law_X1_leavesNext : GoodIn wsL_law (wsV RL 35 RX1 yX1_leavesNext wsX1_leavesNext) := goodIn_app (goodIn_of _ (by decide +kernel)) ggL_law_X1_leavesNext
set_option maxRecDepth 20000 in
theorem ggL_law_X1_broken : GoodIn wsL_law wsX1_broken := goodIn_r _ [163, 24, 249, 250, 251, 252, 253, 254, 255, 256, 257, 258, 259] (by decide +kernel) (by decide +kernel)
set_option maxRecDepth 20000 in
theorem gL_law_X1_broken : GoodIn wsL_law (wsV RL 32 RX1 yX1_broken wsX1_broken) := goodIn_app (goodIn_of _ (by decide +kernel)) ggL_law_X1_broken
set_option maxRecDepth 20000 in
theorem ggL_law_L_grownBy : GoodIn wsL_law wsL_grownBy := goodIn_ca (goodIn_r _ [166, 86, 167, 168, 169, 2, 170, 41, 42, 23, 24, 15, 13, 20, 19, 22, 171, 108, 109, 110, 111, 112, 113, 12, 114, 28, 115, 116, 117, 118, 119, 120, 121, 126, 127, 128, 129, 29, 130, 131, 132, 133, 59, 60, 61, 62, 134, 135, 136, 137, 138, 139, 140, 141, 142, 143, 144, 145, 146, 147, 68, 69, 70, 71, 148, 149, 150, 151, 67, 56, 57, 58, 152, 153, 154, 155, 156, 157, 158, 159, 99, 100, 101, 102, 53, 54, 172, 173, 174, 175, 249, 250, 251, 252, 253, 254, 255, 256, 257, 258, 259, 260, 261] (by decide +kernel) (by decide +kernel)) (goodIn_sub (fun _ h => List.mem_append_left _ (List.mem_append_right _ h)) (by decide +kernel))
set_option maxRecDepth 20000 in
theorem gL_law_L_grownBy : GoodIn wsL_law (va_wsS RL 79 yL_grownBy wsL_grownBy) := goodIn_app (goodIn_of _ (by decide +kernel)) ggL_law_L_grownBy
set_option maxRecDepth 20000 in
theorem ggL_law_X1_generation : GoodIn wsL_law wsX1_generation := goodIn_r _ [179, 23, 249, 250, 251, 252, 253, 254, 255, 256, 257, 258, 259] (by decide +kernel) (by decide +kernel)
set_option maxRecDepth 20000 in
theorem gL_law_X1_generation : GoodIn wsL_law (wsV RL 26 RX1 yX1_generation wsX1_generation) := goodIn_app (goodIn_of _ (by decide +kernel)) ggL_law_X1_generation
set_option maxRecDepth 20000 in
theorem ggL_law_L_isGrownRight : GoodIn wsL_law wsL_isGrownRight := goodIn_ca (goodIn_r _ [182, 43, 44, 45, 2, 46, 13, 47, 48, 49, 50, 51, 52, 53, 54, 55, 56, 57, 12, 58, 59, 60, 61, 62, 28, 63, 64, 65, 66, 67, 68, 69, 70, 71, 29, 183, 184, 185, 186, 187, 149, 150, 151, 188, 189, 190, 191, 20, 192, 193, 194, 195, 134, 135, 136, 137, 138, 139, 140, 115, 116, 117, 118, 119, 120, 121, 196, 197, 198, 199, 200, 201, 202, 203, 141, 142, 143, 204, 205, 206, 207, 76, 77, 78, 208, 153, 154, 155, 148, 107, 108, 109, 110, 111, 112, 113, 114, 209, 210, 211, 212, 213, 214, 215, 216, 217, 92, 93, 94, 22, 249, 250, 251, 252, 253, 254, 255, 256, 257, 258, 259, 260, 261] (by decide +kernel) (by decide +kernel)) (goodIn_sub (fun _ h => List.mem_append_right _ h) (by decide +kernel))
set_option maxRecDepth 20000 in
theorem gL_law_L_isGrownRight : GoodIn wsL_law (va_wsS RL 83 yL_isGrownRight wsL_isGrownRight) := goodIn_app (goodIn_of _ (by decide +kernel)) ggL_law_L_isGrownRight
set_option maxRecDepth 20000 in
theorem ggL_law_L_areMirrored : GoodIn wsL_law wsL_areMirrored := goodIn_ca (goodIn_r _ [220, 107, 108, 109, 2, 110, 13, 111, 112, 113, 12, 114, 28, 115, 116, 117, 118, 119, 120, 121, 209, 210, 211, 212, 213, 214, 215, 216, 176, 177, 178, 179, 23, 217, 92, 93, 94, 22, 160, 161, 162, 163, 24, 122, 123, 124, 125, 15, 20, 19, 126, 127, 128, 129, 29, 130, 131, 132, 133, 59, 60, 61, 62, 134, 135, 136, 137, 138, 139, 140, 141, 142, 143, 144, 145, 146, 147, 68, 69, 70, 71, 148, 149, 150, 151, 67, 56, 57, 58, 152, 153, 154, 155, 156, 157, 158, 159, 99, 100, 101, 102, 53, 54, 43, 44, 45, 46, 47, 48, 49, 50, 51, 52, 55, 63, 64, 65, 66, 183, 184, 185, 186, 187, 188, 189, 190, 191, 192, 193, 194, 195, 196, 197, 198, 199, 200, 201, 202, 203, 204, 205, 206, 207, 76, 77, 78, 208, 221, 222, 223, 224, 225, 226, 227, 228, 14, 172, 173, 174, 175, 95, 96, 97, 98, 249, 250, 251, 252, 253, 254, 255, 256, 257, 258, 259, 260, 261] (by decide +kernel) (by decide +kernel)) (goodIn_sub (fun _ h => List.mem_append_right _ h) (by decide +kernel))
set_option maxRecDepth 20000 in
theorem gL_law_L_areMirrored : GoodIn wsL_law (va_wsS RL 87 yL_areMirrored wsL_areMirrored) := goodIn_app (goodIn_of _ (by decide +kernel)) ggL_law_L_areMirrored
set_option maxRecDepth 20000 in
theorem ggL_law_X1_repeatsIn : GoodIn wsL_law wsX1_repeatsIn := goodIn_r _ [232, 13, 14, 15, 20, 19, 233, 234, 235, 12, 236, 29, 172, 173, 174, 175, 28, 237, 238, 239, 2, 240, 17, 18, 241, 242, 243, 244, 59, 60, 61, 62, 126, 127, 128, 129, 130, 131, 132, 133, 134, 135, 136, 137, 138, 139, 140, 115, 116, 117, 118, 119, 120, 121, 141, 142, 143, 144, 145, 146, 147, 68, 69, 70, 71, 148, 149, 150, 151, 67, 56, 57, 58, 152, 153, 154, 155, 156, 157, 158, 159, 99, 100, 101, 102, 53, 54, 245, 246, 247, 248, 249, 250, 251, 252, 253, 254, 255, 256, 257, 258, 259, 260, 261] (by decide +kernel) (by decide +kernel)
set_option maxRecDepth 20000 in
theorem gL_law_X1_repeatsIn : GoodIn wsL_law (wsV RL 91 RX1 yX1_repeatsIn wsX1_repeatsIn) := goodIn_app (goodIn_of _ (by decide +kernel)) ggL_law_X1_repeatsIn
theorem dL_law_0 : decode cL_law 0 = .ok (.new 9, 3) := by decide +kernel
theorem dL_law_3 : decode cL_law 3 = .ok (.dup, 1) := by decide +kernel
theorem dL_law_4 : decode cL_law 4 = .ok (.invokespecial 58, 3) := by decide +kernel
theorem dL_law_7 : decode cL_law 7 = .ok (.astore_n 1, 1) := by decide +kernel
theorem dL_law_8 : decode cL_law 8 = .ok (.new 9, 3) := by decide +kernel
theorem dL_law_11 : decode cL_law 11 = .ok (.dup, 1) := by decide +kernel
theorem dL_law_12 : decode cL_law 12 = .ok (.invokespecial 58, 3) := by decide +kernel
theorem dL_law_15 : decode cL_law 15 = .ok (.astore_n 2, 1) := by decide +kernel
theorem dL_law_16 : decode cL_law 16 = .ok (.bipush 12, 2) := by decide +kernel
theorem dL_law_18 : decode cL_law 18 = .ok (.newarray .int, 2) := by decide +kernel
theorem dL_law_20 : decode cL_law 20 = .ok (.astore_n 3, 1) := by decide +kernel
theorem dL_law_21 : decode cL_law 21 = .ok (.iconst 0, 1) := by decide +kernel
theorem dL_law_22 : decode cL_law 22 = .ok (.istore 4, 2) := by decide +kernel
theorem dL_law_24 : decode cL_law 24 = .ok (.iload 4, 2) := by decide +kernel
theorem dL_law_26 : decode cL_law 26 = .ok (.bipush 12, 2) := by decide +kernel
theorem dL_law_28 : decode cL_law 28 = .ok (.if_icmp .ge 14, 3) := by decide +kernel
theorem dL_law_31 : decode cL_law 31 = .ok (.aload_n 3, 1) := by decide +kernel
theorem dL_law_32 : decode cL_law 32 = .ok (.iload 4, 2) := by decide +kernel
theorem dL_law_34 : decode cL_law 34 = .ok (.iconst 5, 1) := by decide +kernel
theorem dL_law_35 : decode cL_law 35 = .ok (.iastore, 1) := by decide +kernel
theorem dL_law_36 : decode cL_law 36 = .ok (.iinc 4 1, 3) := by decide +kernel
theorem dL_law_39 : decode cL_law 39 = .ok (.goto (-15), 3) := by decide +kernel
theorem dL_law_42 : decode cL_law 42 = .ok (.aload_n 0, 1) := by decide +kernel
theorem dL_law_43 : decode cL_law 43 = .ok (.iconst 0, 1) := by decide +kernel
theorem dL_law_44 : decode cL_law 44 = .ok (.iconst 3, 1) := by decide +kernel
theorem dL_law_45 : decode cL_law 45 = .ok (.invokestatic 59, 3) := by decide +kernel
theorem dL_law_48 : decode cL_law 48 = .ok (.istore 4, 2) := by decide +kernel
theorem dL_law_50 : decode cL_law 50 = .ok (.aload_n 1, 1) := by decide +kernel
theorem dL_law_51 : decode cL_law 51 = .ok (.iload 4, 2) := by decide +kernel
theorem dL_law_53 : decode cL_law 53 = .ok (.invokevirtual 65, 3) := by decide +kernel
theorem dL_law_56 : decode cL_law 56 = .ok (.aload_n 2, 1) := by decide +kernel
theorem dL_law_57 : decode cL_law 57 = .ok (.iload 4, 2) := by decide +kernel
theorem dL_law_59 : decode cL_law 59 = .ok (.invokevirtual 65, 3) := by decide +kernel
theorem dL_law_62 : decode cL_law 62 = .ok (.iconst 1, 1) := by decide +kernel
theorem dL_law_63 : decode cL_law 63 = .ok (.istore 5, 2) := by decide +kernel
theorem dL_law_65 : decode cL_law 65 = .ok (.iconst 0, 1) := by decide +kernel
theorem dL_law_66 : decode cL_law 66 = .ok (.istore 6, 2) := by decide +kernel
theorem dL_law_68 : decode cL_law 68 = .ok (.iload 6, 2) := by decide +kernel
theorem dL_law_70 : decode cL_law 70 = .ok (.iconst 4, 1) := by decide +kernel
theorem dL_law_71 : decode cL_law 71 = .ok (.if_icmp .ge 48, 3) := by decide +kernel
theorem dL_law_74 : decode cL_law 74 = .ok (.aload_n 0, 1) := by decide +kernel
theorem dL_law_75 : decode cL_law 75 = .ok (.iconst 1, 1) := by decide +kernel
theorem dL_law_76 : decode cL_law 76 = .ok (.iload 6, 2) := by decide +kernel
theorem dL_law_78 : decode cL_law 78 = .ok (.iadd, 1) := by decide +kernel
theorem dL_law_79 : decode cL_law 79 = .ok (.bipush 12, 2) := by decide +kernel
theorem dL_law_81 : decode cL_law 81 = .ok (.invokestatic 59, 3) := by decide +kernel
theorem dL_law_84 : decode cL_law 84 = .ok (.istore 7, 2) := by decide +kernel
theorem dL_law_86 : decode cL_law 86 = .ok (.aload_n 1, 1) := by decide +kernel
theorem dL_law_87 : decode cL_law 87 = .ok (.iconst 0, 1) := by decide +kernel
theorem dL_law_88 : decode cL_law 88 = .ok (.iload 7, 2) := by decide +kernel
theorem dL_law_90 : decode cL_law 90 = .ok (.invokevirtual 38, 3) := by decide +kernel
theorem dL_law_93 : decode cL_law 93 = .ok (.bipush 46, 2) := by decide +kernel
theorem dL_law_95 : decode cL_law 95 = .ok (.if_icmp .ne 18, 3) := by decide +kernel
theorem dL_law_98 : decode cL_law 98 = .ok (.aload_n 1, 1) := by decide +kernel
theorem dL_law_99 : decode cL_law 99 = .ok (.iload 7, 2) := by decide +kernel
theorem dL_law_101 : decode cL_law 101 = .ok (.invokevirtual 69, 3) := by decide +kernel
theorem dL_law_104 : decode cL_law 104 = .ok (.aload_n 2, 1) := by decide +kernel
theorem dL_law_105 : decode cL_law 105 = .ok (.bipush 11, 2) := by decide +kernel
theorem dL_law_107 : decode cL_law 107 = .ok (.iload 7, 2) := by decide +kernel
theorem dL_law_109 : decode cL_law 109 = .ok (.isub, 1) := by decide +kernel
theorem dL_law_110 : decode cL_law 110 = .ok (.invokevirtual 69, 3) := by decide +kernel
theorem dL_law_113 : decode cL_law 113 = .ok (.iinc 6 1, 3) := by decide +kernel
theorem dL_law_116 : decode cL_law 116 = .ok (.goto (-48), 3) := by decide +kernel
theorem dL_law_119 : decode cL_law 119 = .ok (.iconst 0, 1) := by decide +kernel
theorem dL_law_120 : decode cL_law 120 = .ok (.istore 6, 2) := by decide +kernel
theorem dL_law_122 : decode cL_law 122 = .ok (.iload 6, 2) := by decide +kernel
theorem dL_law_124 : decode cL_law 124 = .ok (.bipush 70, 2) := by decide +kernel
theorem dL_law_126 : decode cL_law 126 = .ok (.if_icmp .ge 274, 3) := by decide +kernel
theorem dL_law_129 : decode cL_law 129 = .ok (.iload 5, 2) := by decide +kernel
theorem dL_law_131 : decode cL_law 131 = .ok (.ifCond .eq 269, 3) := by decide +kernel
theorem dL_law_134 : decode cL_law 134 = .ok (.aload_n 0, 1) := by decide +kernel
theorem dL_law_135 : decode cL_law 135 = .ok (.iload 6, 2) := by decide +kernel
theorem dL_law_137 : decode cL_law 137 = .ok (.iconst 5, 1) := by decide +kernel
theorem dL_law_138 : decode cL_law 138 = .ok (.iadd, 1) := by decide +kernel
theorem dL_law_139 : decode cL_law 139 = .ok (.sipush 30000, 3) := by decide +kernel
theorem dL_law_142 : decode cL_law 142 = .ok (.invokestatic 59, 3) := by decide +kernel
theorem dL_law_145 : decode cL_law 145 = .ok (.istore 7, 2) := by decide +kernel
theorem dL_law_147 : decode cL_law 147 = .ok (.iload 7, 2) := by decide +kernel
theorem dL_law_149 : decode cL_law 149 = .ok (.bipush 12, 2) := by decide +kernel
theorem dL_law_151 : decode cL_law 151 = .ok (.irem, 1) := by decide +kernel
theorem dL_law_152 : decode cL_law 152 = .ok (.istore 8, 2) := by decide +kernel
theorem dL_law_154 : decode cL_law 154 = .ok (.iload 7, 2) := by decide +kernel
theorem dL_law_156 : decode cL_law 156 = .ok (.bipush 12, 2) := by decide +kernel
theorem dL_law_158 : decode cL_law 158 = .ok (.idiv, 1) := by decide +kernel
theorem dL_law_159 : decode cL_law 159 = .ok (.bipush 8, 2) := by decide +kernel
theorem dL_law_161 : decode cL_law 161 = .ok (.irem, 1) := by decide +kernel
theorem dL_law_162 : decode cL_law 162 = .ok (.istore 9, 2) := by decide +kernel
theorem dL_law_164 : decode cL_law 164 = .ok (.iload 9, 2) := by decide +kernel
theorem dL_law_166 : decode cL_law 166 = .ok (.iconst 3, 1) := by decide +kernel
theorem dL_law_167 : decode cL_law 167 = .ok (.if_icmp .ge 47, 3) := by decide +kernel
theorem dL_law_170 : decode cL_law 170 = .ok (.aload_n 1, 1) := by decide +kernel
theorem dL_law_171 : decode cL_law 171 = .ok (.iload 7, 2) := by decide +kernel
theorem dL_law_173 : decode cL_law 173 = .ok (.bipush 96, 2) := by decide +kernel
theorem dL_law_175 : decode cL_law 175 = .ok (.idiv, 1) := by decide +kernel
theorem dL_law_176 : decode cL_law 176 = .ok (.bipush 8, 2) := by decide +kernel
theorem dL_law_178 : decode cL_law 178 = .ok (.irem, 1) := by decide +kernel
theorem dL_law_179 : decode cL_law 179 = .ok (.iload 8, 2) := by decide +kernel
theorem dL_law_181 : decode cL_law 181 = .ok (.invokestatic 72, 3) := by decide +kernel
theorem dL_law_184 : decode cL_law 184 = .ok (.aload_n 2, 1) := by decide +kernel
theorem dL_law_185 : decode cL_law 185 = .ok (.iload 7, 2) := by decide +kernel
theorem dL_law_187 : decode cL_law 187 = .ok (.bipush 96, 2) := by decide +kernel
theorem dL_law_189 : decode cL_law 189 = .ok (.idiv, 1) := by decide +kernel
theorem dL_law_190 : decode cL_law 190 = .ok (.bipush 8, 2) := by decide +kernel
theorem dL_law_192 : decode cL_law 192 = .ok (.irem, 1) := by decide +kernel
theorem dL_law_193 : decode cL_law 193 = .ok (.bipush 11, 2) := by decide +kernel
theorem dL_law_195 : decode cL_law 195 = .ok (.iload 8, 2) := by decide +kernel
theorem dL_law_197 : decode cL_law 197 = .ok (.isub, 1) := by decide +kernel
theorem dL_law_198 : decode cL_law 198 = .ok (.invokestatic 72, 3) := by decide +kernel
theorem dL_law_201 : decode cL_law 201 = .ok (.if_icmp .ne 7, 3) := by decide +kernel
theorem dL_law_204 : decode cL_law 204 = .ok (.iconst 1, 1) := by decide +kernel
theorem dL_law_205 : decode cL_law 205 = .ok (.goto 4, 3) := by decide +kernel
theorem dL_law_208 : decode cL_law 208 = .ok (.iconst 0, 1) := by decide +kernel
theorem dL_law_209 : decode cL_law 209 = .ok (.istore 5, 2) := by decide +kernel
theorem dL_law_211 : decode cL_law 211 = .ok (.goto 156, 3) := by decide +kernel
theorem dL_law_214 : decode cL_law 214 = .ok (.iload 9, 2) := by decide +kernel
theorem dL_law_216 : decode cL_law 216 = .ok (.iconst 3, 1) := by decide +kernel
theorem dL_law_217 : decode cL_law 217 = .ok (.if_icmp .ne 64, 3) := by decide +kernel
theorem dL_law_220 : decode cL_law 220 = .ok (.iconst 1, 1) := by decide +kernel
theorem dL_law_221 : decode cL_law 221 = .ok (.iload 7, 2) := by decide +kernel
theorem dL_law_223 : decode cL_law 223 = .ok (.bipush 96, 2) := by decide +kernel
theorem dL_law_225 : decode cL_law 225 = .ok (.idiv, 1) := by decide +kernel
theorem dL_law_226 : decode cL_law 226 = .ok (.bipush 8, 2) := by decide +kernel
theorem dL_law_228 : decode cL_law 228 = .ok (.irem, 1) := by decide +kernel
theorem dL_law_229 : decode cL_law 229 = .ok (.iadd, 1) := by decide +kernel
theorem dL_law_230 : decode cL_law 230 = .ok (.istore 10, 2) := by decide +kernel
theorem dL_law_232 : decode cL_law 232 = .ok (.aload_n 1, 1) := by decide +kernel
theorem dL_law_233 : decode cL_law 233 = .ok (.iload 8, 2) := by decide +kernel
theorem dL_law_235 : decode cL_law 235 = .ok (.iload 10, 2) := by decide +kernel
theorem dL_law_237 : decode cL_law 237 = .ok (.invokevirtual 76, 3) := by decide +kernel
theorem dL_law_240 : decode cL_law 240 = .ok (.aload_n 3, 1) := by decide +kernel
theorem dL_law_241 : decode cL_law 241 = .ok (.iload 8, 2) := by decide +kernel
theorem dL_law_243 : decode cL_law 243 = .ok (.iaload, 1) := by decide +kernel
theorem dL_law_244 : decode cL_law 244 = .ok (.if_icmp .ne 25, 3) := by decide +kernel
theorem dL_law_247 : decode cL_law 247 = .ok (.aload_n 2, 1) := by decide +kernel
theorem dL_law_248 : decode cL_law 248 = .ok (.bipush 11, 2) := by decide +kernel
theorem dL_law_250 : decode cL_law 250 = .ok (.iload 8, 2) := by decide +kernel
theorem dL_law_252 : decode cL_law 252 = .ok (.isub, 1) := by decide +kernel
theorem dL_law_253 : decode cL_law 253 = .ok (.iload 10, 2) := by decide +kernel
theorem dL_law_255 : decode cL_law 255 = .ok (.invokevirtual 76, 3) := by decide +kernel
theorem dL_law_258 : decode cL_law 258 = .ok (.aload_n 3, 1) := by decide +kernel
theorem dL_law_259 : decode cL_law 259 = .ok (.iload 8, 2) := by decide +kernel
theorem dL_law_261 : decode cL_law 261 = .ok (.iaload, 1) := by decide +kernel
theorem dL_law_262 : decode cL_law 262 = .ok (.if_icmp .ne 7, 3) := by decide +kernel
theorem dL_law_265 : decode cL_law 265 = .ok (.iconst 1, 1) := by decide +kernel
theorem dL_law_266 : decode cL_law 266 = .ok (.goto 4, 3) := by decide +kernel
theorem dL_law_269 : decode cL_law 269 = .ok (.iconst 0, 1) := by decide +kernel
theorem dL_law_270 : decode cL_law 270 = .ok (.istore 5, 2) := by decide +kernel
theorem dL_law_272 : decode cL_law 272 = .ok (.aload_n 3, 1) := by decide +kernel
theorem dL_law_273 : decode cL_law 273 = .ok (.iload 8, 2) := by decide +kernel
theorem dL_law_275 : decode cL_law 275 = .ok (.iload 10, 2) := by decide +kernel
theorem dL_law_277 : decode cL_law 277 = .ok (.iastore, 1) := by decide +kernel
theorem dL_law_278 : decode cL_law 278 = .ok (.goto 89, 3) := by decide +kernel
theorem dL_law_281 : decode cL_law 281 = .ok (.aload_n 1, 1) := by decide +kernel
theorem dL_law_282 : decode cL_law 282 = .ok (.invokevirtual 20, 3) := by decide +kernel
theorem dL_law_285 : decode cL_law 285 = .ok (.istore 10, 2) := by decide +kernel
theorem dL_law_287 : decode cL_law 287 = .ok (.aload_n 1, 1) := by decide +kernel
theorem dL_law_288 : decode cL_law 288 = .ok (.invokevirtual 35, 3) := by decide +kernel
theorem dL_law_291 : decode cL_law 291 = .ok (.istore 11, 2) := by decide +kernel
theorem dL_law_293 : decode cL_law 293 = .ok (.aload_n 1, 1) := by decide +kernel
theorem dL_law_294 : decode cL_law 294 = .ok (.invokevirtual 32, 3) := by decide +kernel
theorem dL_law_297 : decode cL_law 297 = .ok (.istore 12, 2) := by decide +kernel
theorem dL_law_299 : decode cL_law 299 = .ok (.aload_n 1, 1) := by decide +kernel
theorem dL_law_300 : decode cL_law 300 = .ok (.invokestatic 79, 3) := by decide +kernel
theorem dL_law_303 : decode cL_law 303 = .ok (.istore 13, 2) := by decide +kernel
theorem dL_law_305 : decode cL_law 305 = .ok (.aload_n 2, 1) := by decide +kernel
theorem dL_law_306 : decode cL_law 306 = .ok (.invokestatic 79, 3) := by decide +kernel
theorem dL_law_309 : decode cL_law 309 = .ok (.iload 13, 2) := by decide +kernel
theorem dL_law_311 : decode cL_law 311 = .ok (.if_icmp .ne 53, 3) := by decide +kernel
theorem dL_law_314 : decode cL_law 314 = .ok (.iload 13, 2) := by decide +kernel
theorem dL_law_316 : decode cL_law 316 = .ok (.bipush (-99), 2) := by decide +kernel
theorem dL_law_318 : decode cL_law 318 = .ok (.if_icmp .ne 15, 3) := by decide +kernel
theorem dL_law_321 : decode cL_law 321 = .ok (.aload_n 1, 1) := by decide +kernel
theorem dL_law_322 : decode cL_law 322 = .ok (.invokevirtual 26, 3) := by decide +kernel
theorem dL_law_325 : decode cL_law 325 = .ok (.bipush 60, 2) := by decide +kernel
theorem dL_law_327 : decode cL_law 327 = .ok (.if_icmp .ne 37, 3) := by decide +kernel
theorem dL_law_330 : decode cL_law 330 = .ok (.goto 30, 3) := by decide +kernel
theorem dL_law_333 : decode cL_law 333 = .ok (.iload 13, 2) := by decide +kernel
theorem dL_law_335 : decode cL_law 335 = .ok (.iload 11, 2) := by decide +kernel
theorem dL_law_337 : decode cL_law 337 = .ok (.iload 10, 2) := by decide +kernel
theorem dL_law_339 : decode cL_law 339 = .ok (.isub, 1) := by decide +kernel
theorem dL_law_340 : decode cL_law 340 = .ok (.if_icmp .ne 24, 3) := by decide +kernel
theorem dL_law_343 : decode cL_law 343 = .ok (.aload_n 1, 1) := by decide +kernel
theorem dL_law_344 : decode cL_law 344 = .ok (.invokevirtual 32, 3) := by decide +kernel
theorem dL_law_347 : decode cL_law 347 = .ok (.iload 12, 2) := by decide +kernel
theorem dL_law_349 : decode cL_law 349 = .ok (.if_icmp .lt 15, 3) := by decide +kernel
theorem dL_law_352 : decode cL_law 352 = .ok (.aload_n 1, 1) := by decide +kernel
theorem dL_law_353 : decode cL_law 353 = .ok (.aload_n 3, 1) := by decide +kernel
theorem dL_law_354 : decode cL_law 354 = .ok (.invokestatic 83, 3) := by decide +kernel
theorem dL_law_357 : decode cL_law 357 = .ok (.ifCond .eq 7, 3) := by decide +kernel
theorem dL_law_360 : decode cL_law 360 = .ok (.iconst 1, 1) := by decide +kernel
theorem dL_law_361 : decode cL_law 361 = .ok (.goto 4, 3) := by decide +kernel
theorem dL_law_364 : decode cL_law 364 = .ok (.iconst 0, 1) := by decide +kernel
theorem dL_law_365 : decode cL_law 365 = .ok (.istore 5, 2) := by decide +kernel
theorem dL_law_367 : decode cL_law 367 = .ok (.iload 5, 2) := by decide +kernel
theorem dL_law_369 : decode cL_law 369 = .ok (.ifCond .eq 22, 3) := by decide +kernel
theorem dL_law_372 : decode cL_law 372 = .ok (.iload 6, 2) := by decide +kernel
theorem dL_law_374 : decode cL_law 374 = .ok (.iconst 3, 1) := by decide +kernel
theorem dL_law_375 : decode cL_law 375 = .ok (.irem, 1) := by decide +kernel
theorem dL_law_376 : decode cL_law 376 = .ok (.ifCond .gt 11, 3) := by decide +kernel
theorem dL_law_379 : decode cL_law 379 = .ok (.aload_n 1, 1) := by decide +kernel
theorem dL_law_380 : decode cL_law 380 = .ok (.aload_n 2, 1) := by decide +kernel
theorem dL_law_381 : decode cL_law 381 = .ok (.invokestatic 87, 3) := by decide +kernel
theorem dL_law_384 : decode cL_law 384 = .ok (.ifCond .eq 7, 3) := by decide +kernel
theorem dL_law_387 : decode cL_law 387 = .ok (.iconst 1, 1) := by decide +kernel
theorem dL_law_388 : decode cL_law 388 = .ok (.goto 4, 3) := by decide +kernel
theorem dL_law_391 : decode cL_law 391 = .ok (.iconst 0, 1) := by decide +kernel
theorem dL_law_392 : decode cL_law 392 = .ok (.istore 5, 2) := by decide +kernel
theorem dL_law_394 : decode cL_law 394 = .ok (.iinc 6 1, 3) := by decide +kernel
theorem dL_law_397 : decode cL_law 397 = .ok (.goto (-275), 3) := by decide +kernel
theorem dL_law_400 : decode cL_law 400 = .ok (.iload 5, 2) := by decide +kernel
theorem dL_law_402 : decode cL_law 402 = .ok (.ifCond .eq 26, 3) := by decide +kernel
theorem dL_law_405 : decode cL_law 405 = .ok (.aload_n 1, 1) := by decide +kernel
theorem dL_law_406 : decode cL_law 406 = .ok (.aload_n 2, 1) := by decide +kernel
theorem dL_law_407 : decode cL_law 407 = .ok (.invokestatic 87, 3) := by decide +kernel
theorem dL_law_410 : decode cL_law 410 = .ok (.ifCond .eq 18, 3) := by decide +kernel
theorem dL_law_413 : decode cL_law 413 = .ok (.aload_n 1, 1) := by decide +kernel
theorem dL_law_414 : decode cL_law 414 = .ok (.invokevirtual 91, 3) := by decide +kernel
theorem dL_law_417 : decode cL_law 417 = .ok (.aload_n 2, 1) := by decide +kernel
theorem dL_law_418 : decode cL_law 418 = .ok (.invokevirtual 91, 3) := by decide +kernel
theorem dL_law_421 : decode cL_law 421 = .ok (.if_icmp .ne 7, 3) := by decide +kernel
theorem dL_law_424 : decode cL_law 424 = .ok (.iconst 1, 1) := by decide +kernel
theorem dL_law_425 : decode cL_law 425 = .ok (.goto 4, 3) := by decide +kernel
theorem dL_law_428 : decode cL_law 428 = .ok (.iconst 0, 1) := by decide +kernel
theorem dL_law_429 : decode cL_law 429 = .ok (.ireturn, 1) := by decide +kernel
