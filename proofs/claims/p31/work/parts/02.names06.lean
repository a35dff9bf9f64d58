theorem dL_apart_18 : decode cL_apart 18 = .ok (.iadd, 1) := by decide +kernel
theorem dL_apart_19 : decode cL_apart 19 = .ok (.istore_n 2, 1) := by decide +kernel
theorem dL_apart_20 : decode cL_apart 20 = .ok (.iinc 3 1, 3) := by decide +kernel
theorem dL_apart_23 : decode cL_apart 23 = .ok (.goto (-19), 3) := by decide +kernel
theorem dL_apart_26 : decode cL_apart 26 = .ok (.iload_n 2, 1) := by decide +kernel
theorem dL_apart_27 : decode cL_apart 27 = .ok (.ireturn, 1) := by decide +kernel
set_option maxRecDepth 20000 in
theorem ggL_records_X9_about : GoodIn wsL_records wsX9_about := goodIn_ca (goodIn_r _ [5, 6, 7, 8, 4, 9, 10, 11, 12, 13, 14, 15, 16, 17, 18, 19, 20, 21, 22, 23, 24, 25, 26, 27, 28, 29, 30, 31, 32, 33, 34, 35, 36, 37, 38, 39, 40, 41, 42, 43, 44, 45, 46, 47, 48, 49, 50, 51, 52, 53, 54, 55, 56, 57, 58, 59, 60, 61, 62, 63, 64, 65, 66, 67, 68, 69, 70, 71, 72, 73, 74, 75, 76, 77, 78, 79, 80, 81, 82, 83, 84, 85, 86, 87, 88, 89, 90, 91, 92, 93, 94, 95, 96, 97, 98, 99, 100, 101, 102, 103, 104, 105, 106, 107, 108, 109, 146, 147, 148, 149, 150, 151, 152, 153, 154, 155, 156, 157, 158, 159, 160, 161, 162, 163, 164, 165, 166, 167, 168, 169] (by decide +kernel) (by decide +kernel)) (goodIn_sub (fun _ h => List.mem_cons_of_mem _ (List.mem_append_left _ (List.mem_append_right _ h))) (by decide +kernel))
set_option maxRecDepth 20000 in
theorem gL_records_X9_about : GoodIn wsL_records (wsV RL 9 RX9 yX9_about wsX9_about) := goodIn_app (goodIn_of _ (by decide +kernel)) ggL_records_X9_about
set_option maxRecDepth 20000 in
theorem ggL_records_X9_record : GoodIn wsL_records wsX9_record := goodIn_ca (goodIn_ca (goodIn_r _ [113, 6, 114, 57, 58, 30, 59, 32, 115, 116, 4, 117, 118, 119, 7, 8, 9, 10, 11, 12, 13, 14, 120, 52, 53, 54, 55, 56, 121, 122, 123, 124, 125, 126, 127, 128, 129, 130, 131, 132, 133, 134, 135, 136, 65, 66, 67, 68, 137, 48, 49, 50, 51, 138, 139, 140, 18, 141, 78, 79, 142, 143, 144, 145, 146, 147, 148, 149, 150, 151, 152, 153, 154, 155, 156, 157, 158, 164, 165, 166, 167, 168, 169] (by decide +kernel) (by decide +kernel)) (goodIn_sub (fun _ h => List.mem_cons_of_mem _ (List.mem_append_right _ h)) (by decide +kernel))) (goodIn_sub (fun _ h => List.mem_cons_of_mem _ (List.mem_append_left _ (List.mem_append_right _ h))) (by decide +kernel))
set_option maxRecDepth 20000 in
theorem gL_records_X9_record : GoodIn wsL_records (wsV RL 15 RX9 yX9_record wsX9_record) := goodIn_app (goodIn_of _ (by decide +kernel)) ggL_records_X9_record
theorem dL_records_0 : decode cL_records 0 = .ok (.iconst 0, 1) := by decide +kernel
theorem dL_records_1 : decode cL_records 1 = .ok (.istore_n 1, 1) := by decide +kernel
theorem dL_records_2 : decode cL_records 2 = .ok (.iconst 0, 1) := by decide +kernel
theorem dL_records_3 : decode cL_records 3 = .ok (.istore_n 2, 1) := by decide +kernel
theorem dL_records_4 : decode cL_records 4 = .ok (.iconst 0, 1) := by decide +kernel
theorem dL_records_5 : decode cL_records 5 = .ok (.istore_n 3, 1) := by decide +kernel
theorem dL_records_6 : decode cL_records 6 = .ok (.iconst 1, 1) := by decide +kernel
theorem dL_records_7 : decode cL_records 7 = .ok (.istore 4, 2) := by decide +kernel
theorem dL_records_9 : decode cL_records 9 = .ok (.iconst 0, 1) := by decide +kernel
theorem dL_records_10 : decode cL_records 10 = .ok (.istore 5, 2) := by decide +kernel
theorem dL_records_12 : decode cL_records 12 = .ok (.iload 5, 2) := by decide +kernel
theorem dL_records_14 : decode cL_records 14 = .ok (.aload_n 0, 1) := by decide +kernel
theorem dL_records_15 : decode cL_records 15 = .ok (.iconst 2, 1) := by decide +kernel
theorem dL_records_16 : decode cL_records 16 = .ok (.invokevirtual 9, 3) := by decide +kernel
theorem dL_records_19 : decode cL_records 19 = .ok (.if_icmp .ge 202, 3) := by decide +kernel
theorem dL_records_22 : decode cL_records 22 = .ok (.iload 4, 2) := by decide +kernel
theorem dL_records_24 : decode cL_records 24 = .ok (.ifCond .eq 197, 3) := by decide +kernel
theorem dL_records_27 : decode cL_records 27 = .ok (.aload_n 0, 1) := by decide +kernel
theorem dL_records_28 : decode cL_records 28 = .ok (.iload 5, 2) := by decide +kernel
theorem dL_records_30 : decode cL_records 30 = .ok (.iconst 0, 1) := by decide +kernel
theorem dL_records_31 : decode cL_records 31 = .ok (.invokevirtual 15, 3) := by decide +kernel
theorem dL_records_34 : decode cL_records 34 = .ok (.istore 6, 2) := by decide +kernel
theorem dL_records_36 : decode cL_records 36 = .ok (.aload_n 0, 1) := by decide +kernel
theorem dL_records_37 : decode cL_records 37 = .ok (.iload 5, 2) := by decide +kernel
theorem dL_records_39 : decode cL_records 39 = .ok (.iconst 4, 1) := by decide +kernel
theorem dL_records_40 : decode cL_records 40 = .ok (.invokevirtual 15, 3) := by decide +kernel
theorem dL_records_43 : decode cL_records 43 = .ok (.istore 7, 2) := by decide +kernel
theorem dL_records_45 : decode cL_records 45 = .ok (.iload_n 1, 1) := by decide +kernel
theorem dL_records_46 : decode cL_records 46 = .ok (.iload 6, 2) := by decide +kernel
theorem dL_records_48 : decode cL_records 48 = .ok (.ifCond .lt 7, 3) := by decide +kernel
theorem dL_records_51 : decode cL_records 51 = .ok (.iconst 1, 1) := by decide +kernel
theorem dL_records_52 : decode cL_records 52 = .ok (.goto 4, 3) := by decide +kernel
theorem dL_records_55 : decode cL_records 55 = .ok (.iconst 0, 1) := by decide +kernel
theorem dL_records_56 : decode cL_records 56 = .ok (.iadd, 1) := by decide +kernel
theorem dL_records_57 : decode cL_records 57 = .ok (.istore_n 1, 1) := by decide +kernel
theorem dL_records_58 : decode cL_records 58 = .ok (.iload_n 2, 1) := by decide +kernel
theorem dL_records_59 : decode cL_records 59 = .ok (.iload 7, 2) := by decide +kernel
theorem dL_records_61 : decode cL_records 61 = .ok (.ifCond .lt 7, 3) := by decide +kernel
theorem dL_records_64 : decode cL_records 64 = .ok (.iconst 1, 1) := by decide +kernel
theorem dL_records_65 : decode cL_records 65 = .ok (.goto 4, 3) := by decide +kernel
theorem dL_records_68 : decode cL_records 68 = .ok (.iconst 0, 1) := by decide +kernel
theorem dL_records_69 : decode cL_records 69 = .ok (.iadd, 1) := by decide +kernel
theorem dL_records_70 : decode cL_records 70 = .ok (.istore_n 2, 1) := by decide +kernel
theorem dL_records_71 : decode cL_records 71 = .ok (.iload_n 3, 1) := by decide +kernel
theorem dL_records_72 : decode cL_records 72 = .ok (.aload_n 0, 1) := by decide +kernel
theorem dL_records_73 : decode cL_records 73 = .ok (.iload 5, 2) := by decide +kernel
theorem dL_records_75 : decode cL_records 75 = .ok (.iconst 5, 1) := by decide +kernel
theorem dL_records_76 : decode cL_records 76 = .ok (.invokevirtual 15, 3) := by decide +kernel
theorem dL_records_79 : decode cL_records 79 = .ok (.iadd, 1) := by decide +kernel
theorem dL_records_80 : decode cL_records 80 = .ok (.istore_n 3, 1) := by decide +kernel
theorem dL_records_81 : decode cL_records 81 = .ok (.iload 6, 2) := by decide +kernel
theorem dL_records_83 : decode cL_records 83 = .ok (.ifCond .ge 25, 3) := by decide +kernel
theorem dL_records_86 : decode cL_records 86 = .ok (.iload 6, 2) := by decide +kernel
theorem dL_records_88 : decode cL_records 88 = .ok (.bipush (-9), 2) := by decide +kernel
theorem dL_records_90 : decode cL_records 90 = .ok (.if_icmp .ne 14, 3) := by decide +kernel
theorem dL_records_93 : decode cL_records 93 = .ok (.iload 7, 2) := by decide +kernel
theorem dL_records_95 : decode cL_records 95 = .ok (.bipush (-9), 2) := by decide +kernel
theorem dL_records_97 : decode cL_records 97 = .ok (.if_icmp .ne 7, 3) := by decide +kernel
theorem dL_records_100 : decode cL_records 100 = .ok (.iconst 1, 1) := by decide +kernel
theorem dL_records_101 : decode cL_records 101 = .ok (.goto 50, 3) := by decide +kernel
theorem dL_records_104 : decode cL_records 104 = .ok (.iconst 0, 1) := by decide +kernel
theorem dL_records_105 : decode cL_records 105 = .ok (.goto 46, 3) := by decide +kernel
theorem dL_records_108 : decode cL_records 108 = .ok (.iload 6, 2) := by decide +kernel
theorem dL_records_110 : decode cL_records 110 = .ok (.iload 5, 2) := by decide +kernel
theorem dL_records_112 : decode cL_records 112 = .ok (.if_icmp .ge 38, 3) := by decide +kernel
theorem dL_records_115 : decode cL_records 115 = .ok (.aload_n 0, 1) := by decide +kernel
theorem dL_records_116 : decode cL_records 116 = .ok (.iload 5, 2) := by decide +kernel
theorem dL_records_118 : decode cL_records 118 = .ok (.iconst 3, 1) := by decide +kernel
theorem dL_records_119 : decode cL_records 119 = .ok (.invokevirtual 15, 3) := by decide +kernel
theorem dL_records_122 : decode cL_records 122 = .ok (.aload_n 0, 1) := by decide +kernel
theorem dL_records_123 : decode cL_records 123 = .ok (.iload 6, 2) := by decide +kernel
theorem dL_records_125 : decode cL_records 125 = .ok (.iconst 3, 1) := by decide +kernel
theorem dL_records_126 : decode cL_records 126 = .ok (.invokevirtual 15, 3) := by decide +kernel
theorem dL_records_129 : decode cL_records 129 = .ok (.ixor, 1) := by decide +kernel
theorem dL_records_130 : decode cL_records 130 = .ok (.iload 7, 2) := by decide +kernel
theorem dL_records_132 : decode cL_records 132 = .ok (.ifCond .ge 7, 3) := by decide +kernel
theorem dL_records_135 : decode cL_records 135 = .ok (.iconst 0, 1) := by decide +kernel
theorem dL_records_136 : decode cL_records 136 = .ok (.goto 7, 3) := by decide +kernel
theorem dL_records_139 : decode cL_records 139 = .ok (.iconst 1, 1) := by decide +kernel
theorem dL_records_140 : decode cL_records 140 = .ok (.iload 7, 2) := by decide +kernel
theorem dL_records_142 : decode cL_records 142 = .ok (.ishl, 1) := by decide +kernel
theorem dL_records_143 : decode cL_records 143 = .ok (.if_icmp .ne 7, 3) := by decide +kernel
theorem dL_records_146 : decode cL_records 146 = .ok (.iconst 1, 1) := by decide +kernel
theorem dL_records_147 : decode cL_records 147 = .ok (.goto 4, 3) := by decide +kernel
theorem dL_records_150 : decode cL_records 150 = .ok (.iconst 0, 1) := by decide +kernel
theorem dL_records_151 : decode cL_records 151 = .ok (.istore 4, 2) := by decide +kernel
theorem dL_records_153 : decode cL_records 153 = .ok (.iload 4, 2) := by decide +kernel
theorem dL_records_155 : decode cL_records 155 = .ok (.ifCond .eq 57, 3) := by decide +kernel
theorem dL_records_158 : decode cL_records 158 = .ok (.aload_n 0, 1) := by decide +kernel
theorem dL_records_159 : decode cL_records 159 = .ok (.iload 5, 2) := by decide +kernel
theorem dL_records_161 : decode cL_records 161 = .ok (.iconst 1, 1) := by decide +kernel
theorem dL_records_162 : decode cL_records 162 = .ok (.invokevirtual 15, 3) := by decide +kernel
theorem dL_records_165 : decode cL_records 165 = .ok (.aload_n 0, 1) := by decide +kernel
theorem dL_records_166 : decode cL_records 166 = .ok (.iconst 0, 1) := by decide +kernel
theorem dL_records_167 : decode cL_records 167 = .ok (.invokevirtual 9, 3) := by decide +kernel
theorem dL_records_170 : decode cL_records 170 = .ok (.if_icmp .ge 42, 3) := by decide +kernel
theorem dL_records_173 : decode cL_records 173 = .ok (.aload_n 0, 1) := by decide +kernel
theorem dL_records_174 : decode cL_records 174 = .ok (.iload 5, 2) := by decide +kernel
theorem dL_records_176 : decode cL_records 176 = .ok (.iconst 2, 1) := by decide +kernel
theorem dL_records_177 : decode cL_records 177 = .ok (.invokevirtual 15, 3) := by decide +kernel
theorem dL_records_180 : decode cL_records 180 = .ok (.bipush 6, 2) := by decide +kernel
theorem dL_records_182 : decode cL_records 182 = .ok (.if_icmp .ge 30, 3) := by decide +kernel
theorem dL_records_185 : decode cL_records 185 = .ok (.aload_n 0, 1) := by decide +kernel
theorem dL_records_186 : decode cL_records 186 = .ok (.iload 5, 2) := by decide +kernel
theorem dL_records_188 : decode cL_records 188 = .ok (.iconst 3, 1) := by decide +kernel
theorem dL_records_189 : decode cL_records 189 = .ok (.invokevirtual 15, 3) := by decide +kernel
theorem dL_records_192 : decode cL_records 192 = .ok (.ifCond .lt 20, 3) := by decide +kernel
theorem dL_records_195 : decode cL_records 195 = .ok (.aload_n 0, 1) := by decide +kernel
theorem dL_records_196 : decode cL_records 196 = .ok (.iload 5, 2) := by decide +kernel
theorem dL_records_198 : decode cL_records 198 = .ok (.iconst 3, 1) := by decide +kernel
theorem dL_records_199 : decode cL_records 199 = .ok (.invokevirtual 15, 3) := by decide +kernel
theorem dL_records_202 : decode cL_records 202 = .ok (.sipush 4096, 3) := by decide +kernel
theorem dL_records_205 : decode cL_records 205 = .ok (.if_icmp .ge 7, 3) := by decide +kernel
theorem dL_records_208 : decode cL_records 208 = .ok (.iconst 1, 1) := by decide +kernel
theorem dL_records_209 : decode cL_records 209 = .ok (.goto 4, 3) := by decide +kernel
theorem dL_records_212 : decode cL_records 212 = .ok (.iconst 0, 1) := by decide +kernel
theorem dL_records_213 : decode cL_records 213 = .ok (.istore 4, 2) := by decide +kernel
theorem dL_records_215 : decode cL_records 215 = .ok (.iinc 5 1, 3) := by decide +kernel
theorem dL_records_218 : decode cL_records 218 = .ok (.goto (-206), 3) := by decide +kernel
theorem dL_records_221 : decode cL_records 221 = .ok (.iload 4, 2) := by decide +kernel
theorem dL_records_223 : decode cL_records 223 = .ok (.ifCond .eq 31, 3) := by decide +kernel
theorem dL_records_226 : decode cL_records 226 = .ok (.iload_n 1, 1) := by decide +kernel
theorem dL_records_227 : decode cL_records 227 = .ok (.aload_n 0, 1) := by decide +kernel
theorem dL_records_228 : decode cL_records 228 = .ok (.iconst 5, 1) := by decide +kernel
theorem dL_records_229 : decode cL_records 229 = .ok (.invokevirtual 9, 3) := by decide +kernel
theorem dL_records_232 : decode cL_records 232 = .ok (.if_icmp .ne 22, 3) := by decide +kernel
theorem dL_records_235 : decode cL_records 235 = .ok (.iload_n 2, 1) := by decide +kernel
theorem dL_records_236 : decode cL_records 236 = .ok (.aload_n 0, 1) := by decide +kernel
theorem dL_records_237 : decode cL_records 237 = .ok (.bipush 6, 2) := by decide +kernel
theorem dL_records_239 : decode cL_records 239 = .ok (.invokevirtual 9, 3) := by decide +kernel
theorem dL_records_242 : decode cL_records 242 = .ok (.if_icmp .ne 12, 3) := by decide +kernel
theorem dL_records_245 : decode cL_records 245 = .ok (.iload_n 3, 1) := by decide +kernel
theorem dL_records_246 : decode cL_records 246 = .ok (.iload_n 1, 1) := by decide +kernel
theorem dL_records_247 : decode cL_records 247 = .ok (.if_icmp .ne 7, 3) := by decide +kernel
theorem dL_records_250 : decode cL_records 250 = .ok (.iconst 1, 1) := by decide +kernel
theorem dL_records_251 : decode cL_records 251 = .ok (.goto 4, 3) := by decide +kernel
theorem dL_records_254 : decode cL_records 254 = .ok (.iconst 0, 1) := by decide +kernel
theorem dL_records_255 : decode cL_records 255 = .ok (.ireturn, 1) := by decide +kernel
set_option maxRecDepth 20000 in
theorem ggL_key_X9_key : GoodIn wsL_key wsX9_key := goodIn_ca (goodIn_ca (goodIn_r _ [5, 6, 7, 8, 9, 4, 10, 11, 12, 13, 14, 15, 16, 17, 18, 19, 20, 21, 22, 23, 24, 25, 26, 27, 28, 29, 30, 31, 32, 33, 34, 35, 36, 37, 38, 39, 40, 41, 42, 43, 44, 45, 46, 47, 48, 49, 50, 51, 52, 53, 54, 55, 56, 57, 58, 59, 60, 61, 62, 63, 64, 65, 66, 67, 68, 69, 70, 71, 72, 73, 74, 75, 76, 77, 78, 79, 80, 81, 82, 83, 84, 85, 86, 87, 88, 89, 90, 91, 92, 306, 307, 308, 309, 310, 311, 312, 313, 314, 315, 316, 317, 318, 319, 320, 321, 322, 323, 324] (by decide +kernel) (by decide +kernel)) (goodIn_sub (fun _ h => List.mem_cons_of_mem _ (List.mem_append_left _ (List.mem_append_right _ h))) (by decide +kernel))) (goodIn_sub (fun _ h => List.mem_cons_of_mem _ (List.mem_append_right _ h)) (by decide +kernel))
set_option maxRecDepth 20000 in
theorem gL_key_X9_key : GoodIn wsL_key (wsV RL 19 RX9 yX9_key wsX9_key) := goodIn_app (goodIn_of _ (by decide +kernel)) ggL_key_X9_key
set_option maxRecDepth 20000 in
theorem ggL_key_X9_trace : GoodIn wsL_key wsX9_trace := goodIn_ca (goodIn_ca (goodIn_r _ [96, 6, 7, 8, 9, 4, 10, 11, 12, 13, 14, 15, 16, 17, 18, 19, 20, 21, 25, 26, 27, 28, 29, 30, 31, 32, 33, 34, 35, 97, 56, 57, 39, 58, 59, 60, 61, 62, 45, 46, 47, 48, 49, 50, 51, 52, 53, 54, 306, 307, 308, 309, 310, 311, 312, 313, 314, 315, 316, 317, 318, 319, 320, 321, 322, 323, 324] (by decide +kernel) (by decide +kernel)) (goodIn_sub (fun _ h => List.mem_cons_of_mem _ (List.mem_append_left _ (List.mem_append_right _ h))) (by decide +kernel))) (goodIn_sub (fun _ h => List.mem_cons_of_mem _ (List.mem_append_right _ h)) (by decide +kernel))
set_option maxRecDepth 20000 in
theorem gL_key_X9_trace : GoodIn wsL_key (wsV RL 23 RX9 yX9_trace wsX9_trace) := goodIn_app (goodIn_of _ (by decide +kernel)) ggL_key_X9_trace
set_option maxRecDepth 20000 in
theorem ggL_key_X9_wentWrong : GoodIn wsL_key wsX9_wentWrong := goodIn_ca (goodIn_r _ [101, 6, 7, 8, 9, 4, 10, 11, 12, 13, 14, 15, 16, 17, 18, 19, 20, 21, 30, 31, 32, 33, 34, 35, 102, 103, 104, 39, 105, 78, 79, 80, 81, 82, 50, 51, 52, 53, 54, 45, 46, 47, 48, 49, 306, 307, 308, 309, 310, 311, 312, 313, 314, 315, 316, 317, 318, 319, 320, 321, 322, 323, 324] (by decide +kernel) (by decide +kernel)) (goodIn_sub (fun _ h => List.mem_cons_of_mem _ (List.mem_append_left _ (List.mem_append_right _ h))) (by decide +kernel))
set_option maxRecDepth 20000 in
theorem gL_key_X9_wentWrong : GoodIn wsL_key (wsV RL 26 RX9 yX9_wentWrong wsX9_wentWrong) := goodIn_app (goodIn_of _ (by decide +kernel)) ggL_key_X9_wentWrong
set_option maxRecDepth 20000 in
theorem ggL_key_X9_accepted : GoodIn wsL_key wsX9_accepted := goodIn_ca (goodIn_r _ [109, 6, 7, 8, 9, 4, 10, 11, 12, 13, 14, 15, 16, 17, 18, 19, 20, 21, 110, 111, 112, 113, 114, 115, 116, 117, 118, 119, 120, 121, 31, 32, 33, 34, 35, 122, 64, 65, 39, 66, 67, 50, 51, 52, 53, 54, 123, 124, 125, 126, 127, 128, 129, 130, 131, 132, 133, 134, 135, 61, 136, 137, 138, 139, 140, 141, 142, 143, 87, 88, 89, 90, 91, 92, 306, 307, 308, 309, 310, 311, 312, 313, 314, 315, 316, 317, 318, 319, 320, 321, 322, 323, 324, 325, 326, 327, 328, 329] (by decide +kernel) (by decide +kernel)) (goodIn_sub (fun _ h => List.mem_cons_of_mem _ (List.mem_append_left _ (List.mem_append_right _ h))) (by decide +kernel))
set_option maxRecDepth 20000 in
theorem gL_key_X9_accepted : GoodIn wsL_key (wsV RL 29 RX9 yX9_accepted wsX9_accepted) := goodIn_app (goodIn_of _ (by decide +kernel)) ggL_key_X9_accepted
set_option maxRecDepth 20000 in
theorem ggL_key_X9_wouldBe : GoodIn wsL_key wsX9_wouldBe := goodIn_ca (goodIn_r _ [147, 6, 7, 8, 9, 4, 10, 11, 12, 13, 14, 15, 16, 17, 18, 19, 20, 21, 148, 149, 150, 151, 152, 153, 154, 155, 156, 157, 158, 135, 61, 136, 159, 160, 161, 162, 121, 31, 32, 33, 34, 35, 116, 117, 118, 119, 120, 122, 64, 65, 39, 66, 67, 50, 51, 52, 53, 54, 163, 164, 165, 166, 167, 168, 169, 170, 171, 172, 173, 174, 175, 176, 177, 306, 307, 308, 309, 310, 311, 312, 313, 314, 315, 316, 317, 318, 319, 320, 321, 322, 323, 324] (by decide +kernel) (by decide +kernel)) (goodIn_sub (fun _ h => List.mem_cons_of_mem _ (List.mem_append_left _ (List.mem_append_right _ h))) (by decide +kernel))
set_option maxRecDepth 20000 in
theorem gL_key_X9_wouldBe : GoodIn wsL_key (wsV RL 32 RX9 yX9_wouldBe wsX9_wouldBe) := goodIn_app (goodIn_of _ (by decide +kernel)) ggL_key_X9_wouldBe
set_option maxRecDepth 20000 in
theorem ggL_key_X9_record : GoodIn wsL_key wsX9_record := goodIn_ca (goodIn_ca (goodIn_r _ [181, 6, 182, 51, 52, 39, 53, 54, 17, 18, 4, 19, 20, 21, 22, 23, 24, 25, 26, 27, 28, 29, 183, 46, 47, 48, 49, 50, 69, 70, 71, 72, 73, 184, 185, 186, 187, 188, 63, 64, 65, 66, 67, 189, 79, 80, 81, 82, 190, 191, 192, 193, 45, 194, 195, 196, 14, 197, 34, 120, 198, 199, 200, 201, 306, 307, 308, 309, 310, 311, 312, 313, 314, 315, 316, 317, 318, 319, 320, 321, 322, 323, 324] (by decide +kernel) (by decide +kernel)) (goodIn_sub (fun _ h => List.mem_cons_of_mem _ (List.mem_append_left _ (List.mem_append_right _ h))) (by decide +kernel))) (goodIn_sub (fun _ h => List.mem_cons_of_mem _ (List.mem_append_right _ h)) (by decide +kernel))
set_option maxRecDepth 20000 in
theorem gL_key_X9_record : GoodIn wsL_key (wsV RL 15 RX9 yX9_record wsX9_record) := goodIn_app (goodIn_of _ (by decide +kernel)) ggL_key_X9_record
set_option maxRecDepth 20000 in
theorem ggL_key_L_apart : GoodIn wsL_key wsL_apart := goodIn_r _ [205] (by decide +kernel) (by decide +kernel)
set_option maxRecDepth 20000 in
theorem gL_key_L_apart : GoodIn wsL_key (va_wsS RL 35 yL_apart wsL_apart) := goodIn_app (goodIn_of _ (by decide +kernel)) ggL_key_L_apart
set_option maxRecDepth 20000 in
theorem ggL_key_X9_common : GoodIn wsL_key wsX9_common := goodIn_ca (goodIn_r _ [209, 6, 7, 8, 9, 4, 10, 11, 12, 13, 14, 15, 16, 17, 18, 19, 20, 21, 30, 31, 32, 33, 34, 35, 210, 211, 212, 39, 213, 214, 199, 200, 201, 45, 46, 47, 48, 49, 50, 51, 52, 53, 54, 306, 307, 308, 309, 310, 311, 312, 313, 314, 315, 316, 317, 318, 319, 320, 321, 322, 323, 324] (by decide +kernel) (by decide +kernel)) (goodIn_sub (fun _ h => List.mem_cons_of_mem _ (List.mem_append_left _ (List.mem_append_right _ h))) (by decide +kernel))
set_option maxRecDepth 20000 in
theorem gL_key_X9_common : GoodIn wsL_key (wsV RL 40 RX9 yX9_common wsX9_common) := goodIn_app (goodIn_of _ (by decide +kernel)) ggL_key_X9_common
set_option maxRecDepth 20000 in
theorem ggL_key_X9_handed : GoodIn wsL_key wsX9_handed := goodIn_ca (goodIn_r _ [218, 6, 7, 8, 9, 4, 10, 11, 12, 13, 14, 15, 16, 17, 18, 19, 20, 21, 148, 149, 150, 151, 219, 220, 221, 222, 156, 158, 135, 61, 136, 157, 116, 117, 118, 119, 120, 121, 31, 32, 33, 34, 35, 122, 64, 65, 39, 66, 67, 50, 51, 52, 53, 54, 163, 164, 165, 166, 167, 168, 169, 170, 171, 172, 173, 174, 175, 176, 177, 306, 307, 308, 309, 310, 311, 312, 313, 314, 315, 316, 317, 318, 319, 320, 321, 322, 323, 324] (by decide +kernel) (by decide +kernel)) (goodIn_sub (fun _ h => List.mem_cons_of_mem _ (List.mem_append_left _ (List.mem_append_right _ h))) (by decide +kernel))
set_option maxRecDepth 20000 in
theorem gL_key_X9_handed : GoodIn wsL_key (wsV RL 44 RX9 yX9_handed wsX9_handed) := goodIn_app (goodIn_of _ (by decide +kernel)) ggL_key_X9_handed
set_option maxRecDepth 20000 in
theorem ggL_key_X9_about : GoodIn wsL_key wsX9_about := goodIn_ca (goodIn_r _ [226, 6, 22, 23, 4, 24, 25, 26, 27, 28, 29, 227, 228, 229, 14, 230, 16, 231, 232, 233, 126, 234, 128, 235, 236, 237, 39, 238, 54, 239, 240, 241, 242, 157, 243, 244, 245, 246, 115, 247, 248, 249, 250, 251, 191, 192, 193, 45, 46, 47, 48, 49, 50, 51, 52, 53, 252, 253, 254, 255, 78, 79, 80, 81, 82, 256, 257, 258, 259, 260, 261, 262, 263, 264, 34, 120, 265, 37, 38, 40, 41, 42, 43, 44, 55, 56, 57, 58, 59, 60, 61, 62, 266, 267, 268, 269, 270, 271, 272, 273, 274, 275, 276, 277, 278, 279, 306, 307, 308, 309, 310, 311, 312, 313, 314, 315, 316, 317, 318, 325, 326, 327, 328, 329, 319, 320, 321, 322, 323, 324] (by decide +kernel) (by decide +kernel)) (goodIn_sub (fun _ h => List.mem_cons_of_mem _ (List.mem_append_right _ h)) (by decide +kernel))
set_option maxRecDepth 20000 in
theorem gL_key_X9_about : GoodIn wsL_key (wsV RL 9 RX9 yX9_about wsX9_about) := goodIn_app (goodIn_of _ (by decide +kernel)) ggL_key_X9_about
set_option maxRecDepth 20000 in
theorem ggL_key_X9_device : GoodIn wsL_key wsX9_device := goodIn_ca (goodIn_ca (goodIn_r _ [283, 6, 284, 140, 141, 126, 142, 128, 17, 18, 4, 19, 20, 21, 22, 23, 24, 25, 26, 27, 28, 29, 285, 286, 287, 288, 133, 139, 289, 290, 291, 292, 137, 293, 294, 295, 296, 138, 297, 298, 299, 300, 260, 301, 302, 303, 14, 304, 16, 114, 116, 117, 118, 119, 120, 121, 31, 32, 33, 34, 35, 12, 13, 15, 122, 64, 65, 39, 66, 67, 50, 51, 52, 53, 54, 305, 130, 131, 132, 134, 135, 61, 136, 143, 87, 88, 89, 90, 91, 92, 306, 307, 308, 309, 310, 311, 312, 313, 314, 315, 316, 317, 318, 325, 326, 327, 328, 329, 319, 320, 321, 322, 323, 324] (by decide +kernel) (by decide +kernel)) (goodIn_sub (fun _ h => List.mem_cons_of_mem _ (List.mem_append_left _ (List.mem_append_right _ h))) (by decide +kernel))) (goodIn_sub (fun _ h => List.mem_cons_of_mem _ (List.mem_append_right _ h)) (by decide +kernel))
set_option maxRecDepth 20000 in
theorem gL_key_X9_device : GoodIn wsL_key (wsV RL 47 RX9 yX9_device wsX9_device) := goodIn_app (goodIn_of _ (by decide +kernel)) ggL_key_X9_device
theorem dL_key_0 : decode cL_key 0 = .ok (.aload_n 0, 1) := by decide +kernel
theorem dL_key_1 : decode cL_key 1 = .ok (.iload_n 1, 1) := by decide +kernel
theorem dL_key_2 : decode cL_key 2 = .ok (.iload_n 2, 1) := by decide +kernel
theorem dL_key_3 : decode cL_key 3 = .ok (.iconst 1, 1) := by decide +kernel
theorem dL_key_4 : decode cL_key 4 = .ok (.invokevirtual 19, 3) := by decide +kernel
theorem dL_key_7 : decode cL_key 7 = .ok (.istore_n 3, 1) := by decide +kernel
theorem dL_key_8 : decode cL_key 8 = .ok (.iload_n 3, 1) := by decide +kernel
theorem dL_key_9 : decode cL_key 9 = .ok (.ifCond .ge 71, 3) := by decide +kernel
theorem dL_key_12 : decode cL_key 12 = .ok (.iload_n 3, 1) := by decide +kernel
theorem dL_key_13 : decode cL_key 13 = .ok (.bipush (-9), 2) := by decide +kernel
theorem dL_key_15 : decode cL_key 15 = .ok (.if_icmp .ne 63, 3) := by decide +kernel
theorem dL_key_18 : decode cL_key 18 = .ok (.aload_n 0, 1) := by decide +kernel
theorem dL_key_19 : decode cL_key 19 = .ok (.iload_n 1, 1) := by decide +kernel
theorem dL_key_20 : decode cL_key 20 = .ok (.iload_n 2, 1) := by decide +kernel
theorem dL_key_21 : decode cL_key 21 = .ok (.iconst 0, 1) := by decide +kernel
theorem dL_key_22 : decode cL_key 22 = .ok (.invokevirtual 19, 3) := by decide +kernel
theorem dL_key_25 : decode cL_key 25 = .ok (.bipush (-9), 2) := by decide +kernel
theorem dL_key_27 : decode cL_key 27 = .ok (.if_icmp .ne 51, 3) := by decide +kernel
theorem dL_key_30 : decode cL_key 30 = .ok (.aload_n 0, 1) := by decide +kernel
theorem dL_key_31 : decode cL_key 31 = .ok (.iload_n 1, 1) := by decide +kernel
theorem dL_key_32 : decode cL_key 32 = .ok (.iload_n 2, 1) := by decide +kernel
theorem dL_key_33 : decode cL_key 33 = .ok (.iconst 0, 1) := by decide +kernel
theorem dL_key_34 : decode cL_key 34 = .ok (.invokevirtual 23, 3) := by decide +kernel
theorem dL_key_37 : decode cL_key 37 = .ok (.bipush (-9), 2) := by decide +kernel
theorem dL_key_39 : decode cL_key 39 = .ok (.if_icmp .ne 39, 3) := by decide +kernel
theorem dL_key_42 : decode cL_key 42 = .ok (.aload_n 0, 1) := by decide +kernel
theorem dL_key_43 : decode cL_key 43 = .ok (.iload_n 1, 1) := by decide +kernel
theorem dL_key_44 : decode cL_key 44 = .ok (.iload_n 2, 1) := by decide +kernel
theorem dL_key_45 : decode cL_key 45 = .ok (.invokevirtual 26, 3) := by decide +kernel
theorem dL_key_48 : decode cL_key 48 = .ok (.bipush (-9), 2) := by decide +kernel
theorem dL_key_50 : decode cL_key 50 = .ok (.if_icmp .ne 28, 3) := by decide +kernel
theorem dL_key_53 : decode cL_key 53 = .ok (.aload_n 0, 1) := by decide +kernel
theorem dL_key_54 : decode cL_key 54 = .ok (.iload_n 1, 1) := by decide +kernel
theorem dL_key_55 : decode cL_key 55 = .ok (.iload_n 2, 1) := by decide +kernel
theorem dL_key_56 : decode cL_key 56 = .ok (.invokevirtual 29, 3) := by decide +kernel
theorem dL_key_59 : decode cL_key 59 = .ok (.ifCond .ne 19, 3) := by decide +kernel
theorem dL_key_62 : decode cL_key 62 = .ok (.aload_n 0, 1) := by decide +kernel
theorem dL_key_63 : decode cL_key 63 = .ok (.iload_n 1, 1) := by decide +kernel
theorem dL_key_64 : decode cL_key 64 = .ok (.iload_n 2, 1) := by decide +kernel
theorem dL_key_65 : decode cL_key 65 = .ok (.iconst 0, 1) := by decide +kernel
theorem dL_key_66 : decode cL_key 66 = .ok (.invokevirtual 32, 3) := by decide +kernel
theorem dL_key_69 : decode cL_key 69 = .ok (.bipush (-9), 2) := by decide +kernel
theorem dL_key_71 : decode cL_key 71 = .ok (.if_icmp .ne 7, 3) := by decide +kernel
theorem dL_key_74 : decode cL_key 74 = .ok (.iconst 1, 1) := by decide +kernel
theorem dL_key_75 : decode cL_key 75 = .ok (.goto 4, 3) := by decide +kernel
theorem dL_key_78 : decode cL_key 78 = .ok (.iconst 0, 1) := by decide +kernel
theorem dL_key_79 : decode cL_key 79 = .ok (.ireturn, 1) := by decide +kernel
theorem dL_key_80 : decode cL_key 80 = .ok (.iconst 0, 1) := by decide +kernel
theorem dL_key_81 : decode cL_key 81 = .ok (.istore 4, 2) := by decide +kernel
theorem dL_key_83 : decode cL_key 83 = .ok (.iconst 0, 1) := by decide +kernel
theorem dL_key_84 : decode cL_key 84 = .ok (.istore 5, 2) := by decide +kernel
theorem dL_key_86 : decode cL_key 86 = .ok (.bipush (-9), 2) := by decide +kernel
theorem dL_key_88 : decode cL_key 88 = .ok (.istore 6, 2) := by decide +kernel
theorem dL_key_90 : decode cL_key 90 = .ok (.iload_n 3, 1) := by decide +kernel
theorem dL_key_91 : decode cL_key 91 = .ok (.istore 7, 2) := by decide +kernel
theorem dL_key_93 : decode cL_key 93 = .ok (.aload_n 0, 1) := by decide +kernel
theorem dL_key_94 : decode cL_key 94 = .ok (.iload_n 3, 1) := by decide +kernel
theorem dL_key_95 : decode cL_key 95 = .ok (.iconst 1, 1) := by decide +kernel
theorem dL_key_96 : decode cL_key 96 = .ok (.invokevirtual 15, 3) := by decide +kernel
theorem dL_key_99 : decode cL_key 99 = .ok (.iload_n 1, 1) := by decide +kernel
theorem dL_key_100 : decode cL_key 100 = .ok (.if_icmp .ne 33, 3) := by decide +kernel
theorem dL_key_103 : decode cL_key 103 = .ok (.aload_n 0, 1) := by decide +kernel
theorem dL_key_104 : decode cL_key 104 = .ok (.iload_n 3, 1) := by decide +kernel
theorem dL_key_105 : decode cL_key 105 = .ok (.iconst 2, 1) := by decide +kernel
theorem dL_key_106 : decode cL_key 106 = .ok (.invokevirtual 15, 3) := by decide +kernel
theorem dL_key_109 : decode cL_key 109 = .ok (.iload_n 2, 1) := by decide +kernel
theorem dL_key_110 : decode cL_key 110 = .ok (.if_icmp .ne 23, 3) := by decide +kernel
theorem dL_key_113 : decode cL_key 113 = .ok (.aload_n 0, 1) := by decide +kernel
theorem dL_key_114 : decode cL_key 114 = .ok (.iload_n 3, 1) := by decide +kernel
theorem dL_key_115 : decode cL_key 115 = .ok (.iconst 3, 1) := by decide +kernel
theorem dL_key_116 : decode cL_key 116 = .ok (.invokevirtual 15, 3) := by decide +kernel
theorem dL_key_119 : decode cL_key 119 = .ok (.aload_n 0, 1) := by decide +kernel
theorem dL_key_120 : decode cL_key 120 = .ok (.iload_n 1, 1) := by decide +kernel
theorem dL_key_121 : decode cL_key 121 = .ok (.iload_n 2, 1) := by decide +kernel
theorem dL_key_122 : decode cL_key 122 = .ok (.iconst 0, 1) := by decide +kernel
theorem dL_key_123 : decode cL_key 123 = .ok (.invokevirtual 19, 3) := by decide +kernel
theorem dL_key_126 : decode cL_key 126 = .ok (.if_icmp .ne 7, 3) := by decide +kernel
theorem dL_key_129 : decode cL_key 129 = .ok (.iconst 1, 1) := by decide +kernel
theorem dL_key_130 : decode cL_key 130 = .ok (.goto 4, 3) := by decide +kernel
theorem dL_key_133 : decode cL_key 133 = .ok (.iconst 0, 1) := by decide +kernel
theorem dL_key_134 : decode cL_key 134 = .ok (.istore 8, 2) := by decide +kernel
theorem dL_key_136 : decode cL_key 136 = .ok (.iload_n 3, 1) := by decide +kernel
theorem dL_key_137 : decode cL_key 137 = .ok (.istore 9, 2) := by decide +kernel
theorem dL_key_139 : decode cL_key 139 = .ok (.iload 9, 2) := by decide +kernel
theorem dL_key_141 : decode cL_key 141 = .ok (.ifCond .lt 97, 3) := by decide +kernel
theorem dL_key_144 : decode cL_key 144 = .ok (.iload 8, 2) := by decide +kernel
theorem dL_key_146 : decode cL_key 146 = .ok (.ifCond .eq 92, 3) := by decide +kernel
theorem dL_key_149 : decode cL_key 149 = .ok (.aload_n 0, 1) := by decide +kernel
theorem dL_key_150 : decode cL_key 150 = .ok (.iload_n 1, 1) := by decide +kernel
theorem dL_key_151 : decode cL_key 151 = .ok (.iload_n 2, 1) := by decide +kernel
theorem dL_key_152 : decode cL_key 152 = .ok (.iload 4, 2) := by decide +kernel
theorem dL_key_154 : decode cL_key 154 = .ok (.invokevirtual 23, 3) := by decide +kernel
theorem dL_key_157 : decode cL_key 157 = .ok (.iload 9, 2) := by decide +kernel
theorem dL_key_159 : decode cL_key 159 = .ok (.if_icmp .ne 18, 3) := by decide +kernel
theorem dL_key_162 : decode cL_key 162 = .ok (.aload_n 0, 1) := by decide +kernel
theorem dL_key_163 : decode cL_key 163 = .ok (.iload 9, 2) := by decide +kernel
theorem dL_key_165 : decode cL_key 165 = .ok (.bipush 6, 2) := by decide +kernel
theorem dL_key_167 : decode cL_key 167 = .ok (.invokevirtual 15, 3) := by decide +kernel
theorem dL_key_170 : decode cL_key 170 = .ok (.ifCond .le 7, 3) := by decide +kernel
theorem dL_key_173 : decode cL_key 173 = .ok (.iconst 1, 1) := by decide +kernel
theorem dL_key_174 : decode cL_key 174 = .ok (.goto 4, 3) := by decide +kernel
theorem dL_key_177 : decode cL_key 177 = .ok (.iconst 0, 1) := by decide +kernel
theorem dL_key_178 : decode cL_key 178 = .ok (.istore 8, 2) := by decide +kernel
theorem dL_key_180 : decode cL_key 180 = .ok (.aload_n 0, 1) := by decide +kernel
theorem dL_key_181 : decode cL_key 181 = .ok (.iload 9, 2) := by decide +kernel
theorem dL_key_183 : decode cL_key 183 = .ok (.iconst 4, 1) := by decide +kernel
theorem dL_key_184 : decode cL_key 184 = .ok (.invokevirtual 15, 3) := by decide +kernel
theorem dL_key_187 : decode cL_key 187 = .ok (.ifCond .lt 8, 3) := by decide +kernel
theorem dL_key_190 : decode cL_key 190 = .ok (.iload 9, 2) := by decide +kernel
theorem dL_key_192 : decode cL_key 192 = .ok (.goto 5, 3) := by decide +kernel
theorem dL_key_195 : decode cL_key 195 = .ok (.iload 6, 2) := by decide +kernel
theorem dL_key_197 : decode cL_key 197 = .ok (.istore 6, 2) := by decide +kernel
theorem dL_key_199 : decode cL_key 199 = .ok (.iload 5, 2) := by decide +kernel
theorem dL_key_201 : decode cL_key 201 = .ok (.aload_n 0, 1) := by decide +kernel
theorem dL_key_202 : decode cL_key 202 = .ok (.iload 9, 2) := by decide +kernel
theorem dL_key_204 : decode cL_key 204 = .ok (.iconst 4, 1) := by decide +kernel
theorem dL_key_205 : decode cL_key 205 = .ok (.invokevirtual 15, 3) := by decide +kernel
theorem dL_key_208 : decode cL_key 208 = .ok (.ifCond .lt 7, 3) := by decide +kernel
theorem dL_key_211 : decode cL_key 211 = .ok (.iconst 1, 1) := by decide +kernel
theorem dL_key_212 : decode cL_key 212 = .ok (.goto 4, 3) := by decide +kernel
theorem dL_key_215 : decode cL_key 215 = .ok (.iconst 0, 1) := by decide +kernel
theorem dL_key_216 : decode cL_key 216 = .ok (.iadd, 1) := by decide +kernel
theorem dL_key_217 : decode cL_key 217 = .ok (.istore 5, 2) := by decide +kernel
theorem dL_key_219 : decode cL_key 219 = .ok (.iload 9, 2) := by decide +kernel
theorem dL_key_221 : decode cL_key 221 = .ok (.istore 7, 2) := by decide +kernel
theorem dL_key_223 : decode cL_key 223 = .ok (.iinc 4 1, 3) := by decide +kernel
theorem dL_key_226 : decode cL_key 226 = .ok (.aload_n 0, 1) := by decide +kernel
theorem dL_key_227 : decode cL_key 227 = .ok (.iload 9, 2) := by decide +kernel
theorem dL_key_229 : decode cL_key 229 = .ok (.iconst 0, 1) := by decide +kernel
theorem dL_key_230 : decode cL_key 230 = .ok (.invokevirtual 15, 3) := by decide +kernel
theorem dL_key_233 : decode cL_key 233 = .ok (.istore 9, 2) := by decide +kernel
theorem dL_key_235 : decode cL_key 235 = .ok (.goto (-96), 3) := by decide +kernel
theorem dL_key_238 : decode cL_key 238 = .ok (.iload 8, 2) := by decide +kernel
theorem dL_key_240 : decode cL_key 240 = .ok (.ifCond .eq 74, 3) := by decide +kernel
theorem dL_key_243 : decode cL_key 243 = .ok (.aload_n 0, 1) := by decide +kernel
theorem dL_key_244 : decode cL_key 244 = .ok (.iload_n 1, 1) := by decide +kernel
theorem dL_key_245 : decode cL_key 245 = .ok (.iload_n 2, 1) := by decide +kernel
theorem dL_key_246 : decode cL_key 246 = .ok (.iload 4, 2) := by decide +kernel
theorem dL_key_248 : decode cL_key 248 = .ok (.invokevirtual 23, 3) := by decide +kernel
theorem dL_key_251 : decode cL_key 251 = .ok (.bipush (-9), 2) := by decide +kernel
theorem dL_key_253 : decode cL_key 253 = .ok (.if_icmp .ne 61, 3) := by decide +kernel
theorem dL_key_256 : decode cL_key 256 = .ok (.aload_n 0, 1) := by decide +kernel
theorem dL_key_257 : decode cL_key 257 = .ok (.iload_n 1, 1) := by decide +kernel
theorem dL_key_258 : decode cL_key 258 = .ok (.iload_n 2, 1) := by decide +kernel
theorem dL_key_259 : decode cL_key 259 = .ok (.iconst 2, 1) := by decide +kernel
theorem dL_key_260 : decode cL_key 260 = .ok (.invokevirtual 19, 3) := by decide +kernel
theorem dL_key_263 : decode cL_key 263 = .ok (.iload 4, 2) := by decide +kernel
theorem dL_key_265 : decode cL_key 265 = .ok (.iconst 1, 1) := by decide +kernel
theorem dL_key_266 : decode cL_key 266 = .ok (.isub, 1) := by decide +kernel
theorem dL_key_267 : decode cL_key 267 = .ok (.if_icmp .ne 47, 3) := by decide +kernel
theorem dL_key_270 : decode cL_key 270 = .ok (.aload_n 0, 1) := by decide +kernel
theorem dL_key_271 : decode cL_key 271 = .ok (.iload_n 1, 1) := by decide +kernel
theorem dL_key_272 : decode cL_key 272 = .ok (.iload_n 2, 1) := by decide +kernel
theorem dL_key_273 : decode cL_key 273 = .ok (.iconst 3, 1) := by decide +kernel
theorem dL_key_274 : decode cL_key 274 = .ok (.invokevirtual 19, 3) := by decide +kernel
theorem dL_key_277 : decode cL_key 277 = .ok (.aload_n 0, 1) := by decide +kernel
theorem dL_key_278 : decode cL_key 278 = .ok (.iload 7, 2) := by decide +kernel
theorem dL_key_280 : decode cL_key 280 = .ok (.iconst 1, 1) := by decide +kernel
theorem dL_key_281 : decode cL_key 281 = .ok (.invokevirtual 15, 3) := by decide +kernel
theorem dL_key_284 : decode cL_key 284 = .ok (.if_icmp .ne 30, 3) := by decide +kernel
theorem dL_key_287 : decode cL_key 287 = .ok (.aload_n 0, 1) := by decide +kernel
theorem dL_key_288 : decode cL_key 288 = .ok (.iload_n 1, 1) := by decide +kernel
theorem dL_key_289 : decode cL_key 289 = .ok (.iload_n 2, 1) := by decide +kernel
theorem dL_key_290 : decode cL_key 290 = .ok (.iconst 4, 1) := by decide +kernel
theorem dL_key_291 : decode cL_key 291 = .ok (.invokevirtual 19, 3) := by decide +kernel
theorem dL_key_294 : decode cL_key 294 = .ok (.iload 5, 2) := by decide +kernel
theorem dL_key_296 : decode cL_key 296 = .ok (.if_icmp .ne 18, 3) := by decide +kernel
theorem dL_key_299 : decode cL_key 299 = .ok (.aload_n 0, 1) := by decide +kernel
theorem dL_key_300 : decode cL_key 300 = .ok (.iload_n 1, 1) := by decide +kernel
theorem dL_key_301 : decode cL_key 301 = .ok (.iload_n 2, 1) := by decide +kernel
theorem dL_key_302 : decode cL_key 302 = .ok (.invokevirtual 26, 3) := by decide +kernel
theorem dL_key_305 : decode cL_key 305 = .ok (.iload 6, 2) := by decide +kernel
theorem dL_key_307 : decode cL_key 307 = .ok (.if_icmp .ne 7, 3) := by decide +kernel
theorem dL_key_310 : decode cL_key 310 = .ok (.iconst 1, 1) := by decide +kernel
theorem dL_key_311 : decode cL_key 311 = .ok (.goto 4, 3) := by decide +kernel
theorem dL_key_314 : decode cL_key 314 = .ok (.iconst 0, 1) := by decide +kernel
theorem dL_key_315 : decode cL_key 315 = .ok (.istore 8, 2) := by decide +kernel
theorem dL_key_317 : decode cL_key 317 = .ok (.iload 8, 2) := by decide +kernel
theorem dL_key_319 : decode cL_key 319 = .ok (.ifCond .eq 80, 3) := by decide +kernel
theorem dL_key_322 : decode cL_key 322 = .ok (.aload_n 0, 1) := by decide +kernel
theorem dL_key_323 : decode cL_key 323 = .ok (.iload_n 1, 1) := by decide +kernel
theorem dL_key_324 : decode cL_key 324 = .ok (.iload_n 2, 1) := by decide +kernel
theorem dL_key_325 : decode cL_key 325 = .ok (.iconst 5, 1) := by decide +kernel
theorem dL_key_326 : decode cL_key 326 = .ok (.invokevirtual 19, 3) := by decide +kernel
theorem dL_key_329 : decode cL_key 329 = .ok (.aload_n 0, 1) := by decide +kernel
theorem dL_key_330 : decode cL_key 330 = .ok (.iload_n 1, 1) := by decide +kernel
theorem dL_key_331 : decode cL_key 331 = .ok (.iload_n 2, 1) := by decide +kernel
theorem dL_key_332 : decode cL_key 332 = .ok (.iconst 0, 1) := by decide +kernel
theorem dL_key_333 : decode cL_key 333 = .ok (.invokevirtual 19, 3) := by decide +kernel
theorem dL_key_336 : decode cL_key 336 = .ok (.aload_n 0, 1) := by decide +kernel
theorem dL_key_337 : decode cL_key 337 = .ok (.iload 7, 2) := by decide +kernel
theorem dL_key_339 : decode cL_key 339 = .ok (.iconst 3, 1) := by decide +kernel
theorem dL_key_340 : decode cL_key 340 = .ok (.invokevirtual 15, 3) := by decide +kernel
theorem dL_key_343 : decode cL_key 343 = .ok (.invokestatic 35, 3) := by decide +kernel
theorem dL_key_346 : decode cL_key 346 = .ok (.if_icmp .ne 53, 3) := by decide +kernel
theorem dL_key_349 : decode cL_key 349 = .ok (.aload_n 0, 1) := by decide +kernel
theorem dL_key_350 : decode cL_key 350 = .ok (.iload_n 1, 1) := by decide +kernel
theorem dL_key_351 : decode cL_key 351 = .ok (.iload_n 2, 1) := by decide +kernel
theorem dL_key_352 : decode cL_key 352 = .ok (.iload_n 1, 1) := by decide +kernel
theorem dL_key_353 : decode cL_key 353 = .ok (.iload_n 2, 1) := by decide +kernel
theorem dL_key_354 : decode cL_key 354 = .ok (.invokevirtual 40, 3) := by decide +kernel
theorem dL_key_357 : decode cL_key 357 = .ok (.iload_n 3, 1) := by decide +kernel
theorem dL_key_358 : decode cL_key 358 = .ok (.if_icmp .ne 41, 3) := by decide +kernel
theorem dL_key_361 : decode cL_key 361 = .ok (.aload_n 0, 1) := by decide +kernel
theorem dL_key_362 : decode cL_key 362 = .ok (.iload_n 1, 1) := by decide +kernel
theorem dL_key_363 : decode cL_key 363 = .ok (.iload_n 2, 1) := by decide +kernel
theorem dL_key_364 : decode cL_key 364 = .ok (.iload_n 1, 1) := by decide +kernel
theorem dL_key_365 : decode cL_key 365 = .ok (.invokevirtual 32, 3) := by decide +kernel
theorem dL_key_368 : decode cL_key 368 = .ok (.aload_n 0, 1) := by decide +kernel
theorem dL_key_369 : decode cL_key 369 = .ok (.iload_n 1, 1) := by decide +kernel
theorem dL_key_370 : decode cL_key 370 = .ok (.iload_n 2, 1) := by decide +kernel
theorem dL_key_371 : decode cL_key 371 = .ok (.iconst 0, 1) := by decide +kernel
theorem dL_key_372 : decode cL_key 372 = .ok (.invokevirtual 19, 3) := by decide +kernel
theorem dL_key_375 : decode cL_key 375 = .ok (.if_icmp .ne 24, 3) := by decide +kernel
theorem dL_key_378 : decode cL_key 378 = .ok (.aload_n 0, 1) := by decide +kernel
theorem dL_key_379 : decode cL_key 379 = .ok (.iload_n 1, 1) := by decide +kernel
theorem dL_key_380 : decode cL_key 380 = .ok (.iload_n 2, 1) := by decide +kernel
theorem dL_key_381 : decode cL_key 381 = .ok (.iload_n 1, 1) := by decide +kernel
theorem dL_key_382 : decode cL_key 382 = .ok (.invokevirtual 44, 3) := by decide +kernel
theorem dL_key_385 : decode cL_key 385 = .ok (.aload_n 0, 1) := by decide +kernel
theorem dL_key_386 : decode cL_key 386 = .ok (.iload_n 1, 1) := by decide +kernel
theorem dL_key_387 : decode cL_key 387 = .ok (.iload_n 2, 1) := by decide +kernel
theorem dL_key_388 : decode cL_key 388 = .ok (.iconst 0, 1) := by decide +kernel
theorem dL_key_389 : decode cL_key 389 = .ok (.invokevirtual 19, 3) := by decide +kernel
theorem dL_key_392 : decode cL_key 392 = .ok (.if_icmp .ne 7, 3) := by decide +kernel
theorem dL_key_395 : decode cL_key 395 = .ok (.iconst 1, 1) := by decide +kernel
theorem dL_key_396 : decode cL_key 396 = .ok (.goto 4, 3) := by decide +kernel
theorem dL_key_399 : decode cL_key 399 = .ok (.iconst 0, 1) := by decide +kernel
theorem dL_key_400 : decode cL_key 400 = .ok (.istore 8, 2) := by decide +kernel
theorem dL_key_402 : decode cL_key 402 = .ok (.iconst 0, 1) := by decide +kernel
theorem dL_key_403 : decode cL_key 403 = .ok (.istore 9, 2) := by decide +kernel
theorem dL_key_405 : decode cL_key 405 = .ok (.iconst 0, 1) := by decide +kernel
theorem dL_key_406 : decode cL_key 406 = .ok (.istore 10, 2) := by decide +kernel
theorem dL_key_408 : decode cL_key 408 = .ok (.iload 10, 2) := by decide +kernel
theorem dL_key_410 : decode cL_key 410 = .ok (.aload_n 0, 1) := by decide +kernel
theorem dL_key_411 : decode cL_key 411 = .ok (.iconst 1, 1) := by decide +kernel
theorem dL_key_412 : decode cL_key 412 = .ok (.invokevirtual 9, 3) := by decide +kernel
theorem dL_key_415 : decode cL_key 415 = .ok (.if_icmp .ge 81, 3) := by decide +kernel
theorem dL_key_418 : decode cL_key 418 = .ok (.aload_n 0, 1) := by decide +kernel
theorem dL_key_419 : decode cL_key 419 = .ok (.iload 10, 2) := by decide +kernel
theorem dL_key_421 : decode cL_key 421 = .ok (.iconst 0, 1) := by decide +kernel
theorem dL_key_422 : decode cL_key 422 = .ok (.invokevirtual 47, 3) := by decide +kernel
theorem dL_key_425 : decode cL_key 425 = .ok (.iload_n 1, 1) := by decide +kernel
theorem dL_key_426 : decode cL_key 426 = .ok (.isub, 1) := by decide +kernel
theorem dL_key_427 : decode cL_key 427 = .ok (.istore 11, 2) := by decide +kernel
theorem dL_key_429 : decode cL_key 429 = .ok (.iload 9, 2) := by decide +kernel
theorem dL_key_431 : decode cL_key 431 = .ok (.iload 11, 2) := by decide +kernel
theorem dL_key_433 : decode cL_key 433 = .ok (.aload_n 0, 1) := by decide +kernel
theorem dL_key_434 : decode cL_key 434 = .ok (.iconst 4, 1) := by decide +kernel
theorem dL_key_435 : decode cL_key 435 = .ok (.invokevirtual 9, 3) := by decide +kernel
theorem dL_key_438 : decode cL_key 438 = .ok (.if_icmp .gt 48, 3) := by decide +kernel
theorem dL_key_441 : decode cL_key 441 = .ok (.iload 11, 2) := by decide +kernel
theorem dL_key_443 : decode cL_key 443 = .ok (.ineg, 1) := by decide +kernel
theorem dL_key_444 : decode cL_key 444 = .ok (.aload_n 0, 1) := by decide +kernel
