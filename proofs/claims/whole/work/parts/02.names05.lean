theorem dX9_about_127 : decode cX9_about 127 = .ok (.ireturn, 1) := by decide +kernel
theorem dX9_about_128 : decode cX9_about 128 = .ok (.aload_n 0, 1) := by decide +kernel
theorem dX9_about_129 : decode cX9_about 129 = .ok (.getfield 10, 3) := by decide +kernel
theorem dX9_about_132 : decode cX9_about 132 = .ok (.getfield 96, 3) := by decide +kernel
theorem dX9_about_135 : decode cX9_about 135 = .ok (.invokevirtual 115, 3) := by decide +kernel
theorem dX9_about_138 : decode cX9_about 138 = .ok (.ireturn, 1) := by decide +kernel
theorem dX9_about_139 : decode cX9_about 139 = .ok (.aload_n 0, 1) := by decide +kernel
theorem dX9_about_140 : decode cX9_about 140 = .ok (.getfield 10, 3) := by decide +kernel
theorem dX9_about_143 : decode cX9_about 143 = .ok (.invokevirtual 118, 3) := by decide +kernel
theorem dX9_about_146 : decode cX9_about 146 = .ok (.ireturn, 1) := by decide +kernel
theorem dX9_about_147 : decode cX9_about 147 = .ok (.aload_n 0, 1) := by decide +kernel
theorem dX9_about_148 : decode cX9_about 148 = .ok (.getfield 10, 3) := by decide +kernel
theorem dX9_about_151 : decode cX9_about 151 = .ok (.getfield 84, 3) := by decide +kernel
theorem dX9_about_154 : decode cX9_about 154 = .ok (.invokevirtual 121, 3) := by decide +kernel
theorem dX9_about_157 : decode cX9_about 157 = .ok (.ireturn, 1) := by decide +kernel
set_option maxRecDepth 20000 in
theorem ggX9_key_X9_requireKey : GoodIn wsX9_key wsX9_requireKey := goodIn_ca (goodIn_r _ [6, 1, 7, 8, 9, 10, 11, 12, 13, 14, 5, 15, 16, 17, 89, 90, 91, 92, 93, 94, 95, 96, 97, 98, 99, 100, 101] (by decide +kernel) (by decide +kernel)) (goodIn_sub (fun _ h => List.mem_cons_of_mem _ (List.mem_append_left _ (List.mem_append_right _ h))) (by decide +kernel))
set_option maxRecDepth 20000 in
theorem gX9_key_X9_requireKey : GoodIn wsX9_key (wsV RX9 124 RX9 yX9_requireKey wsX9_requireKey) := goodIn_app (goodIn_of _ (by decide +kernel)) ggX9_key_X9_requireKey
set_option maxRecDepth 20000 in
theorem ggX9_key_X9_isWithin : GoodIn wsX9_key wsX9_isWithin := goodIn_r _ [20] (by decide +kernel) (by decide +kernel)
set_option maxRecDepth 20000 in
theorem gX9_key_X9_isWithin : GoodIn wsX9_key (va_wsS RX9 47 yX9_isWithin wsX9_isWithin) := goodIn_app (goodIn_of _ (by decide +kernel)) ggX9_key_X9_isWithin
set_option maxRecDepth 20000 in
theorem ggX9_key_X9_requireArgument : GoodIn wsX9_key wsX9_requireArgument := goodIn_ca (goodIn_r _ [23, 24, 25] (by decide +kernel) (by decide +kernel)) (goodIn_sub (fun _ h => List.mem_cons_of_mem _ (List.mem_append_right _ h)) (by decide +kernel))
set_option maxRecDepth 20000 in
theorem gX9_key_X9_requireArgument : GoodIn wsX9_key (va_wsS RX9 51 yX9_requireArgument wsX9_requireArgument) := goodIn_app (goodIn_of _ (by decide +kernel)) ggX9_key_X9_requireArgument
set_option maxRecDepth 20000 in
theorem ggX9_key_X7_recordOf : GoodIn wsX9_key wsX7_recordOf := goodIn_r _ [29, 30, 31, 8, 9, 10, 11, 12, 95, 96, 97, 98, 99, 100, 101] (by decide +kernel) (by decide +kernel)
set_option maxRecDepth 20000 in
theorem gX9_key_X7_recordOf : GoodIn wsX9_key (wsV RX9 128 RX7 yX7_recordOf wsX7_recordOf) := goodIn_app (goodIn_of _ (by decide +kernel)) ggX9_key_X7_recordOf
set_option maxRecDepth 20000 in
theorem ggX9_key_X4_rootOf : GoodIn wsX9_key wsX4_rootOf := goodIn_r _ [36, 37, 38, 39, 35, 40, 41, 42, 43, 44, 45, 46, 47, 48, 49, 50, 51, 52, 53, 54, 55, 56, 57, 58, 102, 103, 104, 105, 106, 107] (by decide +kernel) (by decide +kernel)
set_option maxRecDepth 20000 in
theorem gX9_key_X4_rootOf : GoodIn wsX9_key (wsV RX9 132 RX4 yX4_rootOf wsX4_rootOf) := goodIn_app (goodIn_of _ (by decide +kernel)) ggX9_key_X4_rootOf
set_option maxRecDepth 20000 in
theorem ggX9_key_X4_codeOf : GoodIn wsX9_key wsX4_codeOf := goodIn_r _ [62, 63, 46, 47, 48, 35, 49, 50, 102, 103, 104, 105, 106, 107] (by decide +kernel) (by decide +kernel)
set_option maxRecDepth 20000 in
theorem gX9_key_X4_codeOf : GoodIn wsX9_key (wsV RX9 135 RX4 yX4_codeOf wsX4_codeOf) := goodIn_app (goodIn_of _ (by decide +kernel)) ggX9_key_X4_codeOf
set_option maxRecDepth 20000 in
theorem ggX9_key_X4_generationOf : GoodIn wsX9_key wsX4_generationOf := goodIn_r _ [40, 41, 42, 43, 35, 44, 45, 46, 47, 48, 49, 50, 102, 103, 104, 105, 106, 107] (by decide +kernel) (by decide +kernel)
set_option maxRecDepth 20000 in
theorem gX9_key_X4_generationOf : GoodIn wsX9_key (wsV RX9 138 RX4 yX4_generationOf wsX4_generationOf) := goodIn_app (goodIn_of _ (by decide +kernel)) ggX9_key_X4_generationOf
set_option maxRecDepth 20000 in
theorem ggX9_key_X4_houseOf : GoodIn wsX9_key wsX4_houseOf := goodIn_r _ [68, 69, 46, 47, 48, 35, 49, 50, 102, 103, 104, 105, 106, 107] (by decide +kernel) (by decide +kernel)
set_option maxRecDepth 20000 in
theorem gX9_key_X4_houseOf : GoodIn wsX9_key (wsV RX9 141 RX4 yX4_houseOf wsX4_houseOf) := goodIn_app (goodIn_of _ (by decide +kernel)) ggX9_key_X4_houseOf
set_option maxRecDepth 20000 in
theorem ggX9_key_X4_wrongBitsInChain : GoodIn wsX9_key wsX4_wrongBitsInChain := goodIn_r _ [73, 74, 75, 76, 35, 77, 78, 46, 47, 48, 49, 50, 41, 42, 43, 44, 45, 102, 103, 104, 105, 106, 107] (by decide +kernel) (by decide +kernel)
set_option maxRecDepth 20000 in
theorem gX9_key_X4_wrongBitsInChain : GoodIn wsX9_key (wsV RX9 144 RX4 yX4_wrongBitsInChain wsX4_wrongBitsInChain) := goodIn_app (goodIn_of _ (by decide +kernel)) ggX9_key_X4_wrongBitsInChain
set_option maxRecDepth 20000 in
theorem ggX9_key_X9_apart : GoodIn wsX9_key wsX9_apart := goodIn_r _ [81, 82, 83, 84, 85, 86, 87, 88] (by decide +kernel) (by decide +kernel)
set_option maxRecDepth 20000 in
theorem gX9_key_X9_apart : GoodIn wsX9_key (va_wsS RX9 147 yX9_apart wsX9_apart) := goodIn_app (goodIn_of _ (by decide +kernel)) ggX9_key_X9_apart
theorem dX9_key_0 : decode cX9_key 0 = .ok (.aload_n 0, 1) := by decide +kernel
theorem dX9_key_1 : decode cX9_key 1 = .ok (.iload_n 1, 1) := by decide +kernel
theorem dX9_key_2 : decode cX9_key 2 = .ok (.iload_n 2, 1) := by decide +kernel
theorem dX9_key_3 : decode cX9_key 3 = .ok (.invokevirtual 124, 3) := by decide +kernel
theorem dX9_key_6 : decode cX9_key 6 = .ok (.iload_n 3, 1) := by decide +kernel
theorem dX9_key_7 : decode cX9_key 7 = .ok (.iconst 0, 1) := by decide +kernel
theorem dX9_key_8 : decode cX9_key 8 = .ok (.iconst 5, 1) := by decide +kernel
theorem dX9_key_9 : decode cX9_key 9 = .ok (.invokestatic 47, 3) := by decide +kernel
theorem dX9_key_12 : decode cX9_key 12 = .ok (.invokestatic 51, 3) := by decide +kernel
theorem dX9_key_15 : decode cX9_key 15 = .ok (.aload_n 0, 1) := by decide +kernel
theorem dX9_key_16 : decode cX9_key 16 = .ok (.getfield 10, 3) := by decide +kernel
theorem dX9_key_19 : decode cX9_key 19 = .ok (.iload_n 1, 1) := by decide +kernel
theorem dX9_key_20 : decode cX9_key 20 = .ok (.iload_n 2, 1) := by decide +kernel
theorem dX9_key_21 : decode cX9_key 21 = .ok (.invokevirtual 128, 3) := by decide +kernel
theorem dX9_key_24 : decode cX9_key 24 = .ok (.istore 4, 2) := by decide +kernel
theorem dX9_key_26 : decode cX9_key 26 = .ok (.iload 4, 2) := by decide +kernel
theorem dX9_key_28 : decode cX9_key 28 = .ok (.bipush (-9), 2) := by decide +kernel
theorem dX9_key_30 : decode cX9_key 30 = .ok (.if_icmp .ne 6, 3) := by decide +kernel
theorem dX9_key_33 : decode cX9_key 33 = .ok (.bipush (-9), 2) := by decide +kernel
theorem dX9_key_35 : decode cX9_key 35 = .ok (.ireturn, 1) := by decide +kernel
theorem dX9_key_36 : decode cX9_key 36 = .ok (.aload_n 0, 1) := by decide +kernel
theorem dX9_key_37 : decode cX9_key 37 = .ok (.getfield 10, 3) := by decide +kernel
theorem dX9_key_40 : decode cX9_key 40 = .ok (.getfield 84, 3) := by decide +kernel
theorem dX9_key_43 : decode cX9_key 43 = .ok (.iload 4, 2) := by decide +kernel
theorem dX9_key_45 : decode cX9_key 45 = .ok (.invokevirtual 132, 3) := by decide +kernel
theorem dX9_key_48 : decode cX9_key 48 = .ok (.istore 5, 2) := by decide +kernel
theorem dX9_key_50 : decode cX9_key 50 = .ok (.iload_n 3, 1) := by decide +kernel
theorem dX9_key_51 : decode cX9_key 51 = .ok (.tableswitch 88 0 4 #[33, 46, 49, 62, 75], 33) := by decide +kernel
theorem dX9_key_84 : decode cX9_key 84 = .ok (.aload_n 0, 1) := by decide +kernel
theorem dX9_key_85 : decode cX9_key 85 = .ok (.getfield 10, 3) := by decide +kernel
theorem dX9_key_88 : decode cX9_key 88 = .ok (.getfield 84, 3) := by decide +kernel
theorem dX9_key_91 : decode cX9_key 91 = .ok (.iload 4, 2) := by decide +kernel
theorem dX9_key_93 : decode cX9_key 93 = .ok (.invokevirtual 135, 3) := by decide +kernel
theorem dX9_key_96 : decode cX9_key 96 = .ok (.ireturn, 1) := by decide +kernel
theorem dX9_key_97 : decode cX9_key 97 = .ok (.iload 4, 2) := by decide +kernel
theorem dX9_key_99 : decode cX9_key 99 = .ok (.ireturn, 1) := by decide +kernel
theorem dX9_key_100 : decode cX9_key 100 = .ok (.aload_n 0, 1) := by decide +kernel
theorem dX9_key_101 : decode cX9_key 101 = .ok (.getfield 10, 3) := by decide +kernel
theorem dX9_key_104 : decode cX9_key 104 = .ok (.getfield 84, 3) := by decide +kernel
theorem dX9_key_107 : decode cX9_key 107 = .ok (.iload 4, 2) := by decide +kernel
theorem dX9_key_109 : decode cX9_key 109 = .ok (.invokevirtual 138, 3) := by decide +kernel
theorem dX9_key_112 : decode cX9_key 112 = .ok (.ireturn, 1) := by decide +kernel
theorem dX9_key_113 : decode cX9_key 113 = .ok (.aload_n 0, 1) := by decide +kernel
theorem dX9_key_114 : decode cX9_key 114 = .ok (.getfield 10, 3) := by decide +kernel
theorem dX9_key_117 : decode cX9_key 117 = .ok (.getfield 84, 3) := by decide +kernel
theorem dX9_key_120 : decode cX9_key 120 = .ok (.iload 5, 2) := by decide +kernel
theorem dX9_key_122 : decode cX9_key 122 = .ok (.invokevirtual 141, 3) := by decide +kernel
theorem dX9_key_125 : decode cX9_key 125 = .ok (.ireturn, 1) := by decide +kernel
theorem dX9_key_126 : decode cX9_key 126 = .ok (.aload_n 0, 1) := by decide +kernel
theorem dX9_key_127 : decode cX9_key 127 = .ok (.getfield 10, 3) := by decide +kernel
theorem dX9_key_130 : decode cX9_key 130 = .ok (.getfield 84, 3) := by decide +kernel
theorem dX9_key_133 : decode cX9_key 133 = .ok (.iload 4, 2) := by decide +kernel
theorem dX9_key_135 : decode cX9_key 135 = .ok (.invokevirtual 144, 3) := by decide +kernel
theorem dX9_key_138 : decode cX9_key 138 = .ok (.ireturn, 1) := by decide +kernel
theorem dX9_key_139 : decode cX9_key 139 = .ok (.aload_n 0, 1) := by decide +kernel
theorem dX9_key_140 : decode cX9_key 140 = .ok (.getfield 10, 3) := by decide +kernel
theorem dX9_key_143 : decode cX9_key 143 = .ok (.getfield 84, 3) := by decide +kernel
theorem dX9_key_146 : decode cX9_key 146 = .ok (.iload 4, 2) := by decide +kernel
theorem dX9_key_148 : decode cX9_key 148 = .ok (.invokevirtual 135, 3) := by decide +kernel
theorem dX9_key_151 : decode cX9_key 151 = .ok (.aload_n 0, 1) := by decide +kernel
theorem dX9_key_152 : decode cX9_key 152 = .ok (.getfield 10, 3) := by decide +kernel
theorem dX9_key_155 : decode cX9_key 155 = .ok (.getfield 84, 3) := by decide +kernel
theorem dX9_key_158 : decode cX9_key 158 = .ok (.iload 5, 2) := by decide +kernel
theorem dX9_key_160 : decode cX9_key 160 = .ok (.invokevirtual 135, 3) := by decide +kernel
theorem dX9_key_163 : decode cX9_key 163 = .ok (.invokestatic 147, 3) := by decide +kernel
theorem dX9_key_166 : decode cX9_key 166 = .ok (.ireturn, 1) := by decide +kernel
set_option maxRecDepth 20000 in
theorem ggX9_record_X4_has : GoodIn wsX9_record wsX4_has := goodIn_r _ [6, 7, 77, 78, 79, 80, 81, 82] (by decide +kernel) (by decide +kernel)
set_option maxRecDepth 20000 in
theorem gX9_record_X4_has : GoodIn wsX9_record (wsV RX9 150 RX4 yX4_has wsX4_has) := goodIn_app (goodIn_of _ (by decide +kernel)) ggX9_record_X4_has
set_option maxRecDepth 20000 in
theorem ggX9_record_X9_requirePlace : GoodIn wsX9_record wsX9_requirePlace := goodIn_ca (goodIn_r _ [11, 12, 13] (by decide +kernel) (by decide +kernel)) (goodIn_sub (fun _ h => List.mem_cons_of_mem _ (List.mem_append_left _ (List.mem_append_right _ h))) (by decide +kernel))
set_option maxRecDepth 20000 in
theorem gX9_record_X9_requirePlace : GoodIn wsX9_record (va_wsS RX9 154 yX9_requirePlace wsX9_requirePlace) := goodIn_app (goodIn_of _ (by decide +kernel)) ggX9_record_X9_requirePlace
set_option maxRecDepth 20000 in
theorem ggX9_record_X9_isWithin : GoodIn wsX9_record wsX9_isWithin := goodIn_r _ [16] (by decide +kernel) (by decide +kernel)
set_option maxRecDepth 20000 in
theorem gX9_record_X9_isWithin : GoodIn wsX9_record (va_wsS RX9 47 yX9_isWithin wsX9_isWithin) := goodIn_app (goodIn_of _ (by decide +kernel)) ggX9_record_X9_isWithin
set_option maxRecDepth 20000 in
theorem ggX9_record_X9_requireArgument : GoodIn wsX9_record wsX9_requireArgument := goodIn_ca (goodIn_r _ [19, 20, 21] (by decide +kernel) (by decide +kernel)) (goodIn_sub (fun _ h => List.mem_cons_of_mem _ (List.mem_append_right _ h)) (by decide +kernel))
set_option maxRecDepth 20000 in
theorem gX9_record_X9_requireArgument : GoodIn wsX9_record (va_wsS RX9 51 yX9_requireArgument wsX9_requireArgument) := goodIn_app (goodIn_of _ (by decide +kernel)) ggX9_record_X9_requireArgument
set_option maxRecDepth 20000 in
theorem ggX9_record_X4_parentOf : GoodIn wsX9_record wsX4_parentOf := goodIn_r _ [25, 26, 27, 3, 4, 5, 6, 7, 77, 78, 79, 80, 81, 82] (by decide +kernel) (by decide +kernel)
set_option maxRecDepth 20000 in
theorem gX9_record_X4_parentOf : GoodIn wsX9_record (wsV RX9 157 RX4 yX4_parentOf wsX4_parentOf) := goodIn_app (goodIn_of _ (by decide +kernel)) ggX9_record_X4_parentOf
set_option maxRecDepth 20000 in
theorem ggX9_record_X4_houseOf : GoodIn wsX9_record wsX4_houseOf := goodIn_r _ [31, 32, 27, 3, 4, 5, 6, 7, 77, 78, 79, 80, 81, 82] (by decide +kernel) (by decide +kernel)
set_option maxRecDepth 20000 in
theorem gX9_record_X4_houseOf : GoodIn wsX9_record (wsV RX9 141 RX4 yX4_houseOf wsX4_houseOf) := goodIn_app (goodIn_of _ (by decide +kernel)) ggX9_record_X4_houseOf
set_option maxRecDepth 20000 in
theorem ggX9_record_X4_keyOf : GoodIn wsX9_record wsX4_keyOf := goodIn_r _ [36, 37, 27, 3, 4, 5, 6, 7, 77, 78, 79, 80, 81, 82] (by decide +kernel) (by decide +kernel)
set_option maxRecDepth 20000 in
theorem gX9_record_X4_keyOf : GoodIn wsX9_record (wsV RX9 160 RX4 yX4_keyOf wsX4_keyOf) := goodIn_app (goodIn_of _ (by decide +kernel)) ggX9_record_X4_keyOf
set_option maxRecDepth 20000 in
theorem ggX9_record_X4_codeOf : GoodIn wsX9_record wsX4_codeOf := goodIn_r _ [41, 42, 27, 3, 4, 5, 6, 7, 77, 78, 79, 80, 81, 82] (by decide +kernel) (by decide +kernel)
set_option maxRecDepth 20000 in
theorem gX9_record_X4_codeOf : GoodIn wsX9_record (wsV RX9 135 RX4 yX4_codeOf wsX4_codeOf) := goodIn_app (goodIn_of _ (by decide +kernel)) ggX9_record_X4_codeOf
set_option maxRecDepth 20000 in
theorem ggX9_record_X4_wrongBitOf : GoodIn wsX9_record wsX4_wrongBitOf := goodIn_r _ [46, 47, 27, 3, 4, 5, 6, 7, 77, 78, 79, 80, 81, 82] (by decide +kernel) (by decide +kernel)
set_option maxRecDepth 20000 in
theorem gX9_record_X4_wrongBitOf : GoodIn wsX9_record (wsV RX9 163 RX4 yX4_wrongBitOf wsX4_wrongBitOf) := goodIn_app (goodIn_of _ (by decide +kernel)) ggX9_record_X4_wrongBitOf
set_option maxRecDepth 20000 in
theorem ggX9_record_X4_childrenOf : GoodIn wsX9_record wsX4_childrenOf := goodIn_r _ [51, 7, 52, 23, 24, 5, 25, 26, 27, 3, 4, 6, 77, 78, 79, 80, 81, 82] (by decide +kernel) (by decide +kernel)
set_option maxRecDepth 20000 in
theorem gX9_record_X4_childrenOf : GoodIn wsX9_record (wsV RX9 166 RX4 yX4_childrenOf wsX4_childrenOf) := goodIn_app (goodIn_of _ (by decide +kernel)) ggX9_record_X4_childrenOf
set_option maxRecDepth 20000 in
theorem ggX9_record_X7_keysFrom : GoodIn wsX9_record wsX7_keysFrom := goodIn_r _ [57, 58, 59, 60, 61, 62, 5, 63, 52, 23, 24, 25, 26, 27, 3, 4, 6, 7, 70, 71, 72, 73, 74, 75, 76, 77, 78, 79, 80, 81, 82] (by decide +kernel) (by decide +kernel)
set_option maxRecDepth 20000 in
theorem gX9_record_X7_keysFrom : GoodIn wsX9_record (wsV RX9 169 RX7 yX7_keysFrom wsX7_keysFrom) := goodIn_app (goodIn_of _ (by decide +kernel)) ggX9_record_X7_keysFrom
theorem dX9_record_0 : decode cX9_record 0 = .ok (.aload_n 0, 1) := by decide +kernel
theorem dX9_record_1 : decode cX9_record 1 = .ok (.getfield 10, 3) := by decide +kernel
theorem dX9_record_4 : decode cX9_record 4 = .ok (.getfield 84, 3) := by decide +kernel
theorem dX9_record_7 : decode cX9_record 7 = .ok (.iload_n 1, 1) := by decide +kernel
theorem dX9_record_8 : decode cX9_record 8 = .ok (.invokevirtual 150, 3) := by decide +kernel
theorem dX9_record_11 : decode cX9_record 11 = .ok (.invokestatic 154, 3) := by decide +kernel
theorem dX9_record_14 : decode cX9_record 14 = .ok (.iload_n 2, 1) := by decide +kernel
theorem dX9_record_15 : decode cX9_record 15 = .ok (.iconst 0, 1) := by decide +kernel
theorem dX9_record_16 : decode cX9_record 16 = .ok (.bipush 6, 2) := by decide +kernel
theorem dX9_record_18 : decode cX9_record 18 = .ok (.invokestatic 47, 3) := by decide +kernel
theorem dX9_record_21 : decode cX9_record 21 = .ok (.invokestatic 51, 3) := by decide +kernel
theorem dX9_record_24 : decode cX9_record 24 = .ok (.iload_n 2, 1) := by decide +kernel
theorem dX9_record_25 : decode cX9_record 25 = .ok (.tableswitch 111 0 5 #[39, 51, 63, 75, 87, 99], 39) := by decide +kernel
theorem dX9_record_64 : decode cX9_record 64 = .ok (.aload_n 0, 1) := by decide +kernel
theorem dX9_record_65 : decode cX9_record 65 = .ok (.getfield 10, 3) := by decide +kernel
theorem dX9_record_68 : decode cX9_record 68 = .ok (.getfield 84, 3) := by decide +kernel
theorem dX9_record_71 : decode cX9_record 71 = .ok (.iload_n 1, 1) := by decide +kernel
theorem dX9_record_72 : decode cX9_record 72 = .ok (.invokevirtual 157, 3) := by decide +kernel
theorem dX9_record_75 : decode cX9_record 75 = .ok (.ireturn, 1) := by decide +kernel
theorem dX9_record_76 : decode cX9_record 76 = .ok (.aload_n 0, 1) := by decide +kernel
theorem dX9_record_77 : decode cX9_record 77 = .ok (.getfield 10, 3) := by decide +kernel
theorem dX9_record_80 : decode cX9_record 80 = .ok (.getfield 84, 3) := by decide +kernel
theorem dX9_record_83 : decode cX9_record 83 = .ok (.iload_n 1, 1) := by decide +kernel
theorem dX9_record_84 : decode cX9_record 84 = .ok (.invokevirtual 141, 3) := by decide +kernel
theorem dX9_record_87 : decode cX9_record 87 = .ok (.ireturn, 1) := by decide +kernel
theorem dX9_record_88 : decode cX9_record 88 = .ok (.aload_n 0, 1) := by decide +kernel
theorem dX9_record_89 : decode cX9_record 89 = .ok (.getfield 10, 3) := by decide +kernel
theorem dX9_record_92 : decode cX9_record 92 = .ok (.getfield 84, 3) := by decide +kernel
theorem dX9_record_95 : decode cX9_record 95 = .ok (.iload_n 1, 1) := by decide +kernel
theorem dX9_record_96 : decode cX9_record 96 = .ok (.invokevirtual 160, 3) := by decide +kernel
theorem dX9_record_99 : decode cX9_record 99 = .ok (.ireturn, 1) := by decide +kernel
theorem dX9_record_100 : decode cX9_record 100 = .ok (.aload_n 0, 1) := by decide +kernel
theorem dX9_record_101 : decode cX9_record 101 = .ok (.getfield 10, 3) := by decide +kernel
theorem dX9_record_104 : decode cX9_record 104 = .ok (.getfield 84, 3) := by decide +kernel
theorem dX9_record_107 : decode cX9_record 107 = .ok (.iload_n 1, 1) := by decide +kernel
theorem dX9_record_108 : decode cX9_record 108 = .ok (.invokevirtual 135, 3) := by decide +kernel
theorem dX9_record_111 : decode cX9_record 111 = .ok (.ireturn, 1) := by decide +kernel
theorem dX9_record_112 : decode cX9_record 112 = .ok (.aload_n 0, 1) := by decide +kernel
theorem dX9_record_113 : decode cX9_record 113 = .ok (.getfield 10, 3) := by decide +kernel
theorem dX9_record_116 : decode cX9_record 116 = .ok (.getfield 84, 3) := by decide +kernel
theorem dX9_record_119 : decode cX9_record 119 = .ok (.iload_n 1, 1) := by decide +kernel
theorem dX9_record_120 : decode cX9_record 120 = .ok (.invokevirtual 163, 3) := by decide +kernel
theorem dX9_record_123 : decode cX9_record 123 = .ok (.ireturn, 1) := by decide +kernel
theorem dX9_record_124 : decode cX9_record 124 = .ok (.aload_n 0, 1) := by decide +kernel
theorem dX9_record_125 : decode cX9_record 125 = .ok (.getfield 10, 3) := by decide +kernel
theorem dX9_record_128 : decode cX9_record 128 = .ok (.getfield 84, 3) := by decide +kernel
theorem dX9_record_131 : decode cX9_record 131 = .ok (.iload_n 1, 1) := by decide +kernel
theorem dX9_record_132 : decode cX9_record 132 = .ok (.invokevirtual 166, 3) := by decide +kernel
theorem dX9_record_135 : decode cX9_record 135 = .ok (.ireturn, 1) := by decide +kernel
theorem dX9_record_136 : decode cX9_record 136 = .ok (.aload_n 0, 1) := by decide +kernel
theorem dX9_record_137 : decode cX9_record 137 = .ok (.getfield 10, 3) := by decide +kernel
theorem dX9_record_140 : decode cX9_record 140 = .ok (.iload_n 1, 1) := by decide +kernel
theorem dX9_record_141 : decode cX9_record 141 = .ok (.invokevirtual 169, 3) := by decide +kernel
theorem dX9_record_144 : decode cX9_record 144 = .ok (.ireturn, 1) := by decide +kernel
set_option maxRecDepth 20000 in
theorem ggX9_device_X0_has : GoodIn wsX9_device wsX0_has := goodIn_r _ [6, 7, 103, 104, 105, 106, 107] (by decide +kernel) (by decide +kernel)
set_option maxRecDepth 20000 in
theorem gX9_device_X0_has : GoodIn wsX9_device (wsV RX9 172 RX0 yX0_has wsX0_has) := goodIn_app (goodIn_of _ (by decide +kernel)) ggX9_device_X0_has
set_option maxRecDepth 20000 in
theorem ggX9_device_X9_requirePlace : GoodIn wsX9_device wsX9_requirePlace := goodIn_ca (goodIn_r _ [11, 12, 13] (by decide +kernel) (by decide +kernel)) (goodIn_sub (fun _ h => List.mem_cons_of_mem _ (List.mem_append_left _ (List.mem_append_right _ h))) (by decide +kernel))
set_option maxRecDepth 20000 in
theorem gX9_device_X9_requirePlace : GoodIn wsX9_device (va_wsS RX9 154 yX9_requirePlace wsX9_requirePlace) := goodIn_app (goodIn_of _ (by decide +kernel)) ggX9_device_X9_requirePlace
set_option maxRecDepth 20000 in
theorem ggX9_device_X9_isWithin : GoodIn wsX9_device wsX9_isWithin := goodIn_r _ [16] (by decide +kernel) (by decide +kernel)
set_option maxRecDepth 20000 in
theorem gX9_device_X9_isWithin : GoodIn wsX9_device (va_wsS RX9 47 yX9_isWithin wsX9_isWithin) := goodIn_app (goodIn_of _ (by decide +kernel)) ggX9_device_X9_isWithin
set_option maxRecDepth 20000 in
theorem ggX9_device_X9_requireArgument : GoodIn wsX9_device wsX9_requireArgument := goodIn_ca (goodIn_r _ [19, 20, 21] (by decide +kernel) (by decide +kernel)) (goodIn_sub (fun _ h => List.mem_cons_of_mem _ (List.mem_append_right _ h)) (by decide +kernel))
set_option maxRecDepth 20000 in
theorem gX9_device_X9_requireArgument : GoodIn wsX9_device (va_wsS RX9 51 yX9_requireArgument wsX9_requireArgument) := goodIn_app (goodIn_of _ (by decide +kernel)) ggX9_device_X9_requireArgument
set_option maxRecDepth 20000 in
theorem ggX9_device_X0_houseOf : GoodIn wsX9_device wsX0_houseOf := goodIn_r _ [25, 26, 27, 3, 4, 5, 6, 7, 103, 104, 105, 106, 107] (by decide +kernel) (by decide +kernel)
set_option maxRecDepth 20000 in
theorem gX9_device_X0_houseOf : GoodIn wsX9_device (wsV RX9 173 RX0 yX0_houseOf wsX0_houseOf) := goodIn_app (goodIn_of _ (by decide +kernel)) ggX9_device_X0_houseOf
set_option maxRecDepth 20000 in
theorem ggX9_device_X0_codeOf : GoodIn wsX9_device wsX0_codeOf := goodIn_r _ [31, 32, 27, 3, 4, 5, 6, 7, 103, 104, 105, 106, 107] (by decide +kernel) (by decide +kernel)
set_option maxRecDepth 20000 in
theorem gX9_device_X0_codeOf : GoodIn wsX9_device (wsV RX9 174 RX0 yX0_codeOf wsX0_codeOf) := goodIn_app (goodIn_of _ (by decide +kernel)) ggX9_device_X0_codeOf
set_option maxRecDepth 20000 in
theorem ggX9_device_X0_toleranceOf : GoodIn wsX9_device wsX0_toleranceOf := goodIn_r _ [36, 37, 27, 3, 4, 5, 6, 7, 103, 104, 105, 106, 107] (by decide +kernel) (by decide +kernel)
set_option maxRecDepth 20000 in
theorem gX9_device_X0_toleranceOf : GoodIn wsX9_device (wsV RX9 175 RX0 yX0_toleranceOf wsX0_toleranceOf) := goodIn_app (goodIn_of _ (by decide +kernel)) ggX9_device_X0_toleranceOf
set_option maxRecDepth 20000 in
theorem ggX9_device_X0_isOn : GoodIn wsX9_device wsX0_isOn := goodIn_r _ [41, 42, 27, 3, 4, 5, 6, 7, 103, 104, 105, 106, 107] (by decide +kernel) (by decide +kernel)
set_option maxRecDepth 20000 in
theorem gX9_device_X0_isOn : GoodIn wsX9_device (wsV RX9 178 RX0 yX0_isOn wsX0_isOn) := goodIn_app (goodIn_of _ (by decide +kernel)) ggX9_device_X0_isOn
set_option maxRecDepth 20000 in
theorem ggX9_device_X7_keysAcceptedBy : GoodIn wsX9_device wsX7_keysAcceptedBy := goodIn_r _ [47, 48, 49, 50, 51, 52, 46, 53, 54, 55, 56, 57, 58, 59, 60, 61, 62, 63, 64, 65, 66, 67, 68, 69, 70, 71, 72, 73, 74, 75, 76, 77, 5, 78, 26, 79, 80, 81, 82, 32, 37, 27, 3, 4, 6, 7, 83, 84, 85, 86, 87, 88, 89, 96, 97, 98, 99, 100, 101, 102, 108, 109, 110, 111, 112, 113, 103, 104, 105, 106, 107] (by decide +kernel) (by decide +kernel)
set_option maxRecDepth 20000 in
theorem gX9_device_X7_keysAcceptedBy : GoodIn wsX9_device (wsV RX9 181 RX7 yX7_keysAcceptedBy wsX7_keysAcceptedBy) := goodIn_app (goodIn_of _ (by decide +kernel)) ggX9_device_X7_keysAcceptedBy
theorem dX9_device_0 : decode cX9_device 0 = .ok (.aload_n 0, 1) := by decide +kernel
theorem dX9_device_1 : decode cX9_device 1 = .ok (.getfield 10, 3) := by decide +kernel
theorem dX9_device_4 : decode cX9_device 4 = .ok (.getfield 96, 3) := by decide +kernel
theorem dX9_device_7 : decode cX9_device 7 = .ok (.iload_n 1, 1) := by decide +kernel
theorem dX9_device_8 : decode cX9_device 8 = .ok (.invokevirtual 172, 3) := by decide +kernel
theorem dX9_device_11 : decode cX9_device 11 = .ok (.invokestatic 154, 3) := by decide +kernel
theorem dX9_device_14 : decode cX9_device 14 = .ok (.iload_n 2, 1) := by decide +kernel
theorem dX9_device_15 : decode cX9_device 15 = .ok (.iconst 0, 1) := by decide +kernel
theorem dX9_device_16 : decode cX9_device 16 = .ok (.iconst 4, 1) := by decide +kernel
theorem dX9_device_17 : decode cX9_device 17 = .ok (.invokestatic 47, 3) := by decide +kernel
theorem dX9_device_20 : decode cX9_device 20 = .ok (.invokestatic 51, 3) := by decide +kernel
theorem dX9_device_23 : decode cX9_device 23 = .ok (.iload_n 2, 1) := by decide +kernel
theorem dX9_device_24 : decode cX9_device 24 = .ok (.tableswitch 88 0 3 #[32, 44, 56, 68], 32) := by decide +kernel
theorem dX9_device_56 : decode cX9_device 56 = .ok (.aload_n 0, 1) := by decide +kernel
theorem dX9_device_57 : decode cX9_device 57 = .ok (.getfield 10, 3) := by decide +kernel
theorem dX9_device_60 : decode cX9_device 60 = .ok (.getfield 96, 3) := by decide +kernel
theorem dX9_device_63 : decode cX9_device 63 = .ok (.iload_n 1, 1) := by decide +kernel
theorem dX9_device_64 : decode cX9_device 64 = .ok (.invokevirtual 173, 3) := by decide +kernel
theorem dX9_device_67 : decode cX9_device 67 = .ok (.ireturn, 1) := by decide +kernel
theorem dX9_device_68 : decode cX9_device 68 = .ok (.aload_n 0, 1) := by decide +kernel
theorem dX9_device_69 : decode cX9_device 69 = .ok (.getfield 10, 3) := by decide +kernel
theorem dX9_device_72 : decode cX9_device 72 = .ok (.getfield 96, 3) := by decide +kernel
theorem dX9_device_75 : decode cX9_device 75 = .ok (.iload_n 1, 1) := by decide +kernel
theorem dX9_device_76 : decode cX9_device 76 = .ok (.invokevirtual 174, 3) := by decide +kernel
theorem dX9_device_79 : decode cX9_device 79 = .ok (.ireturn, 1) := by decide +kernel
theorem dX9_device_80 : decode cX9_device 80 = .ok (.aload_n 0, 1) := by decide +kernel
theorem dX9_device_81 : decode cX9_device 81 = .ok (.getfield 10, 3) := by decide +kernel
theorem dX9_device_84 : decode cX9_device 84 = .ok (.getfield 96, 3) := by decide +kernel
theorem dX9_device_87 : decode cX9_device 87 = .ok (.iload_n 1, 1) := by decide +kernel
theorem dX9_device_88 : decode cX9_device 88 = .ok (.invokevirtual 175, 3) := by decide +kernel
theorem dX9_device_91 : decode cX9_device 91 = .ok (.ireturn, 1) := by decide +kernel
theorem dX9_device_92 : decode cX9_device 92 = .ok (.aload_n 0, 1) := by decide +kernel
theorem dX9_device_93 : decode cX9_device 93 = .ok (.getfield 10, 3) := by decide +kernel
theorem dX9_device_96 : decode cX9_device 96 = .ok (.getfield 96, 3) := by decide +kernel
theorem dX9_device_99 : decode cX9_device 99 = .ok (.iload_n 1, 1) := by decide +kernel
theorem dX9_device_100 : decode cX9_device 100 = .ok (.invokevirtual 178, 3) := by decide +kernel
theorem dX9_device_103 : decode cX9_device 103 = .ok (.ifCond .eq 7, 3) := by decide +kernel
theorem dX9_device_106 : decode cX9_device 106 = .ok (.iconst 1, 1) := by decide +kernel
theorem dX9_device_107 : decode cX9_device 107 = .ok (.goto 4, 3) := by decide +kernel
theorem dX9_device_110 : decode cX9_device 110 = .ok (.iconst 0, 1) := by decide +kernel
theorem dX9_device_111 : decode cX9_device 111 = .ok (.ireturn, 1) := by decide +kernel
theorem dX9_device_112 : decode cX9_device 112 = .ok (.aload_n 0, 1) := by decide +kernel
theorem dX9_device_113 : decode cX9_device 113 = .ok (.getfield 10, 3) := by decide +kernel
theorem dX9_device_116 : decode cX9_device 116 = .ok (.iload_n 1, 1) := by decide +kernel
theorem dX9_device_117 : decode cX9_device 117 = .ok (.invokevirtual 181, 3) := by decide +kernel
theorem dX9_device_120 : decode cX9_device 120 = .ok (.ireturn, 1) := by decide +kernel
set_option maxRecDepth 20000 in
theorem ggX9_trace_X9_requireKey : GoodIn wsX9_trace wsX9_requireKey := goodIn_ca (goodIn_r _ [6, 1, 7, 8, 9, 10, 11, 12, 13, 14, 5, 15, 16, 17, 48, 49, 50, 51, 52, 53, 54, 55, 56, 57, 58, 59, 60] (by decide +kernel) (by decide +kernel)) (goodIn_sub (fun _ h => List.mem_cons_of_mem _ (List.mem_append_left _ (List.mem_append_right _ h))) (by decide +kernel))
set_option maxRecDepth 20000 in
theorem gX9_trace_X9_requireKey : GoodIn wsX9_trace (wsV RX9 124 RX9 yX9_requireKey wsX9_requireKey) := goodIn_app (goodIn_of _ (by decide +kernel)) ggX9_trace_X9_requireKey
set_option maxRecDepth 20000 in
theorem ggX9_trace_X9_requireArgument : GoodIn wsX9_trace wsX9_requireArgument := goodIn_ca (goodIn_r _ [20, 21, 22] (by decide +kernel) (by decide +kernel)) (goodIn_sub (fun _ h => List.mem_cons_of_mem _ (List.mem_append_right _ h)) (by decide +kernel))
set_option maxRecDepth 20000 in
theorem gX9_trace_X9_requireArgument : GoodIn wsX9_trace (va_wsS RX9 51 yX9_requireArgument wsX9_requireArgument) := goodIn_app (goodIn_of _ (by decide +kernel)) ggX9_trace_X9_requireArgument
set_option maxRecDepth 20000 in
theorem ggX9_trace_X7_recordOf : GoodIn wsX9_trace wsX7_recordOf := goodIn_r _ [26, 27, 28, 8, 9, 10, 11, 12, 54, 55, 56, 57, 58, 59, 60] (by decide +kernel) (by decide +kernel)
set_option maxRecDepth 20000 in
theorem gX9_trace_X7_recordOf : GoodIn wsX9_trace (wsV RX9 128 RX7 yX7_recordOf wsX7_recordOf) := goodIn_app (goodIn_of _ (by decide +kernel)) ggX9_trace_X7_recordOf
set_option maxRecDepth 20000 in
theorem ggX9_trace_X4_ancestorOf : GoodIn wsX9_trace wsX4_ancestorOf := goodIn_r _ [33, 34, 35, 36, 37, 38, 39, 40, 32, 41, 42, 43, 44, 45, 46, 47, 61, 62, 63, 64, 65, 66] (by decide +kernel) (by decide +kernel)
set_option maxRecDepth 20000 in
theorem gX9_trace_X4_ancestorOf : GoodIn wsX9_trace (wsV RX9 184 RX4 yX4_ancestorOf wsX4_ancestorOf) := goodIn_app (goodIn_of _ (by decide +kernel)) ggX9_trace_X4_ancestorOf
theorem dX9_trace_0 : decode cX9_trace 0 = .ok (.aload_n 0, 1) := by decide +kernel
theorem dX9_trace_1 : decode cX9_trace 1 = .ok (.iload_n 1, 1) := by decide +kernel
theorem dX9_trace_2 : decode cX9_trace 2 = .ok (.iload_n 2, 1) := by decide +kernel
theorem dX9_trace_3 : decode cX9_trace 3 = .ok (.invokevirtual 124, 3) := by decide +kernel
theorem dX9_trace_6 : decode cX9_trace 6 = .ok (.iload_n 3, 1) := by decide +kernel
theorem dX9_trace_7 : decode cX9_trace 7 = .ok (.ifCond .lt 7, 3) := by decide +kernel
theorem dX9_trace_10 : decode cX9_trace 10 = .ok (.iconst 1, 1) := by decide +kernel
theorem dX9_trace_11 : decode cX9_trace 11 = .ok (.goto 4, 3) := by decide +kernel
theorem dX9_trace_14 : decode cX9_trace 14 = .ok (.iconst 0, 1) := by decide +kernel
theorem dX9_trace_15 : decode cX9_trace 15 = .ok (.invokestatic 51, 3) := by decide +kernel
theorem dX9_trace_18 : decode cX9_trace 18 = .ok (.aload_n 0, 1) := by decide +kernel
theorem dX9_trace_19 : decode cX9_trace 19 = .ok (.getfield 10, 3) := by decide +kernel
theorem dX9_trace_22 : decode cX9_trace 22 = .ok (.getfield 84, 3) := by decide +kernel
theorem dX9_trace_25 : decode cX9_trace 25 = .ok (.aload_n 0, 1) := by decide +kernel
theorem dX9_trace_26 : decode cX9_trace 26 = .ok (.getfield 10, 3) := by decide +kernel
theorem dX9_trace_29 : decode cX9_trace 29 = .ok (.iload_n 1, 1) := by decide +kernel
theorem dX9_trace_30 : decode cX9_trace 30 = .ok (.iload_n 2, 1) := by decide +kernel
theorem dX9_trace_31 : decode cX9_trace 31 = .ok (.invokevirtual 128, 3) := by decide +kernel
theorem dX9_trace_34 : decode cX9_trace 34 = .ok (.iload_n 3, 1) := by decide +kernel
theorem dX9_trace_35 : decode cX9_trace 35 = .ok (.invokevirtual 184, 3) := by decide +kernel
theorem dX9_trace_38 : decode cX9_trace 38 = .ok (.ireturn, 1) := by decide +kernel
set_option maxRecDepth 20000 in
theorem ggX9_wentWrong_X9_requireKey : GoodIn wsX9_wentWrong wsX9_requireKey := goodIn_ca (goodIn_r _ [6, 1, 7, 8, 9, 10, 11, 12, 13, 14, 5, 15, 16, 17, 44, 45, 46, 47, 48, 49, 50, 51, 52, 53, 54, 55, 56] (by decide +kernel) (by decide +kernel)) (goodIn_sub (fun _ h => List.mem_cons_of_mem _ (List.mem_append_right _ h)) (by decide +kernel))
set_option maxRecDepth 20000 in
theorem gX9_wentWrong_X9_requireKey : GoodIn wsX9_wentWrong (wsV RX9 124 RX9 yX9_requireKey wsX9_requireKey) := goodIn_app (goodIn_of _ (by decide +kernel)) ggX9_wentWrong_X9_requireKey
set_option maxRecDepth 20000 in
theorem ggX9_wentWrong_X7_recordOf : GoodIn wsX9_wentWrong wsX7_recordOf := goodIn_r _ [21, 22, 23, 8, 9, 10, 11, 12, 50, 51, 52, 53, 54, 55, 56] (by decide +kernel) (by decide +kernel)
set_option maxRecDepth 20000 in
theorem gX9_wentWrong_X7_recordOf : GoodIn wsX9_wentWrong (wsV RX9 128 RX7 yX7_recordOf wsX7_recordOf) := goodIn_app (goodIn_of _ (by decide +kernel)) ggX9_wentWrong_X7_recordOf
set_option maxRecDepth 20000 in
theorem ggX9_wentWrong_X4_firstWrongInChain : GoodIn wsX9_wentWrong wsX4_firstWrongInChain := goodIn_r _ [28, 29, 30, 31, 27, 32, 33, 34, 35, 36, 37, 38, 39, 40, 41, 42, 43, 57, 58, 59, 60, 61, 62] (by decide +kernel) (by decide +kernel)
set_option maxRecDepth 20000 in
theorem gX9_wentWrong_X4_firstWrongInChain : GoodIn wsX9_wentWrong (wsV RX9 187 RX4 yX4_firstWrongInChain wsX4_firstWrongInChain) := goodIn_app (goodIn_of _ (by decide +kernel)) ggX9_wentWrong_X4_firstWrongInChain
theorem dX9_wentWrong_0 : decode cX9_wentWrong 0 = .ok (.aload_n 0, 1) := by decide +kernel
theorem dX9_wentWrong_1 : decode cX9_wentWrong 1 = .ok (.iload_n 1, 1) := by decide +kernel
theorem dX9_wentWrong_2 : decode cX9_wentWrong 2 = .ok (.iload_n 2, 1) := by decide +kernel
theorem dX9_wentWrong_3 : decode cX9_wentWrong 3 = .ok (.invokevirtual 124, 3) := by decide +kernel
theorem dX9_wentWrong_6 : decode cX9_wentWrong 6 = .ok (.aload_n 0, 1) := by decide +kernel
theorem dX9_wentWrong_7 : decode cX9_wentWrong 7 = .ok (.getfield 10, 3) := by decide +kernel
theorem dX9_wentWrong_10 : decode cX9_wentWrong 10 = .ok (.getfield 84, 3) := by decide +kernel
theorem dX9_wentWrong_13 : decode cX9_wentWrong 13 = .ok (.aload_n 0, 1) := by decide +kernel
theorem dX9_wentWrong_14 : decode cX9_wentWrong 14 = .ok (.getfield 10, 3) := by decide +kernel
theorem dX9_wentWrong_17 : decode cX9_wentWrong 17 = .ok (.iload_n 1, 1) := by decide +kernel
theorem dX9_wentWrong_18 : decode cX9_wentWrong 18 = .ok (.iload_n 2, 1) := by decide +kernel
theorem dX9_wentWrong_19 : decode cX9_wentWrong 19 = .ok (.invokevirtual 128, 3) := by decide +kernel
theorem dX9_wentWrong_22 : decode cX9_wentWrong 22 = .ok (.invokevirtual 187, 3) := by decide +kernel
theorem dX9_wentWrong_25 : decode cX9_wentWrong 25 = .ok (.ireturn, 1) := by decide +kernel
set_option maxRecDepth 20000 in
theorem ggX9_common_X9_requireKey : GoodIn wsX9_common wsX9_requireKey := goodIn_ca (goodIn_r _ [6, 1, 7, 8, 9, 10, 11, 12, 13, 14, 5, 15, 16, 17, 43, 44, 45, 46, 47, 48, 49, 50, 51, 52, 53, 54, 55] (by decide +kernel) (by decide +kernel)) (goodIn_sub (fun _ h => List.mem_cons_of_mem _ (List.mem_append_right _ h)) (by decide +kernel))
set_option maxRecDepth 20000 in
theorem gX9_common_X9_requireKey : GoodIn wsX9_common (wsV RX9 124 RX9 yX9_requireKey wsX9_requireKey) := goodIn_app (goodIn_of _ (by decide +kernel)) ggX9_common_X9_requireKey
set_option maxRecDepth 20000 in
theorem ggX9_common_X7_recordOf : GoodIn wsX9_common wsX7_recordOf := goodIn_r _ [21, 22, 23, 8, 9, 10, 11, 12, 49, 50, 51, 52, 53, 54, 55] (by decide +kernel) (by decide +kernel)
set_option maxRecDepth 20000 in
theorem gX9_common_X7_recordOf : GoodIn wsX9_common (wsV RX9 128 RX7 yX7_recordOf wsX7_recordOf) := goodIn_app (goodIn_of _ (by decide +kernel)) ggX9_common_X7_recordOf
set_option maxRecDepth 20000 in
theorem ggX9_common_X4_meetingOf : GoodIn wsX9_common wsX4_meetingOf := goodIn_r _ [28, 29, 30, 31, 27, 32, 33, 34, 35, 36, 37, 38, 39, 40, 41, 42, 56, 57, 58, 59, 60, 61] (by decide +kernel) (by decide +kernel)
set_option maxRecDepth 20000 in
theorem gX9_common_X4_meetingOf : GoodIn wsX9_common (wsV RX9 190 RX4 yX4_meetingOf wsX4_meetingOf) := goodIn_app (goodIn_of _ (by decide +kernel)) ggX9_common_X4_meetingOf
theorem dX9_common_0 : decode cX9_common 0 = .ok (.aload_n 0, 1) := by decide +kernel
theorem dX9_common_1 : decode cX9_common 1 = .ok (.iload_n 1, 1) := by decide +kernel
theorem dX9_common_2 : decode cX9_common 2 = .ok (.iload_n 2, 1) := by decide +kernel
theorem dX9_common_3 : decode cX9_common 3 = .ok (.invokevirtual 124, 3) := by decide +kernel
theorem dX9_common_6 : decode cX9_common 6 = .ok (.aload_n 0, 1) := by decide +kernel
theorem dX9_common_7 : decode cX9_common 7 = .ok (.iload_n 3, 1) := by decide +kernel
theorem dX9_common_8 : decode cX9_common 8 = .ok (.iload 4, 2) := by decide +kernel
theorem dX9_common_10 : decode cX9_common 10 = .ok (.invokevirtual 124, 3) := by decide +kernel
theorem dX9_common_13 : decode cX9_common 13 = .ok (.aload_n 0, 1) := by decide +kernel
theorem dX9_common_14 : decode cX9_common 14 = .ok (.getfield 10, 3) := by decide +kernel
theorem dX9_common_17 : decode cX9_common 17 = .ok (.getfield 84, 3) := by decide +kernel
theorem dX9_common_20 : decode cX9_common 20 = .ok (.aload_n 0, 1) := by decide +kernel
theorem dX9_common_21 : decode cX9_common 21 = .ok (.getfield 10, 3) := by decide +kernel
theorem dX9_common_24 : decode cX9_common 24 = .ok (.iload_n 1, 1) := by decide +kernel
theorem dX9_common_25 : decode cX9_common 25 = .ok (.iload_n 2, 1) := by decide +kernel
theorem dX9_common_26 : decode cX9_common 26 = .ok (.invokevirtual 128, 3) := by decide +kernel
theorem dX9_common_29 : decode cX9_common 29 = .ok (.aload_n 0, 1) := by decide +kernel
theorem dX9_common_30 : decode cX9_common 30 = .ok (.getfield 10, 3) := by decide +kernel
theorem dX9_common_33 : decode cX9_common 33 = .ok (.iload_n 3, 1) := by decide +kernel
theorem dX9_common_34 : decode cX9_common 34 = .ok (.iload 4, 2) := by decide +kernel
theorem dX9_common_36 : decode cX9_common 36 = .ok (.invokevirtual 128, 3) := by decide +kernel
theorem dX9_common_39 : decode cX9_common 39 = .ok (.invokevirtual 190, 3) := by decide +kernel
theorem dX9_common_42 : decode cX9_common 42 = .ok (.ireturn, 1) := by decide +kernel
set_option maxRecDepth 20000 in
theorem ggX9_accepted_X9_requireKey : GoodIn wsX9_accepted wsX9_requireKey := goodIn_ca (goodIn_r _ [6, 1, 7, 8, 9, 10, 11, 12, 13, 14, 5, 15, 16, 17, 74, 75, 76, 77, 78, 79, 80, 81, 82, 83, 84, 85, 86] (by decide +kernel) (by decide +kernel)) (goodIn_sub (fun _ h => List.mem_cons_of_mem _ (List.mem_append_right _ h)) (by decide +kernel))
set_option maxRecDepth 20000 in
theorem gX9_accepted_X9_requireKey : GoodIn wsX9_accepted (wsV RX9 124 RX9 yX9_requireKey wsX9_requireKey) := goodIn_app (goodIn_of _ (by decide +kernel)) ggX9_accepted_X9_requireKey
set_option maxRecDepth 20000 in
theorem ggX9_accepted_X7_acceptingDevices : GoodIn wsX9_accepted wsX7_acceptingDevices := goodIn_r _ [21, 22, 23, 24, 25, 26, 10, 27, 28, 29, 30, 31, 32, 33, 34, 8, 9, 11, 12, 35, 36, 37, 38, 39, 40, 41, 42, 43, 44, 45, 46, 47, 48, 49, 50, 51, 52, 53, 54, 55, 56, 57, 58, 59, 60, 61, 62, 63, 64, 65, 66, 67, 68, 69, 70, 71, 72, 73, 80, 81, 82, 83, 84, 85, 86, 87, 88, 89, 90, 91, 92, 93, 94, 95, 96, 97] (by decide +kernel) (by decide +kernel)
set_option maxRecDepth 20000 in
theorem gX9_accepted_X7_acceptingDevices : GoodIn wsX9_accepted (wsV RX9 193 RX7 yX7_acceptingDevices wsX7_acceptingDevices) := goodIn_app (goodIn_of _ (by decide +kernel)) ggX9_accepted_X7_acceptingDevices
theorem dX9_accepted_0 : decode cX9_accepted 0 = .ok (.aload_n 0, 1) := by decide +kernel
theorem dX9_accepted_1 : decode cX9_accepted 1 = .ok (.iload_n 1, 1) := by decide +kernel
theorem dX9_accepted_2 : decode cX9_accepted 2 = .ok (.iload_n 2, 1) := by decide +kernel
theorem dX9_accepted_3 : decode cX9_accepted 3 = .ok (.invokevirtual 124, 3) := by decide +kernel
theorem dX9_accepted_6 : decode cX9_accepted 6 = .ok (.aload_n 0, 1) := by decide +kernel
theorem dX9_accepted_7 : decode cX9_accepted 7 = .ok (.getfield 10, 3) := by decide +kernel
theorem dX9_accepted_10 : decode cX9_accepted 10 = .ok (.iload_n 1, 1) := by decide +kernel
theorem dX9_accepted_11 : decode cX9_accepted 11 = .ok (.iload_n 2, 1) := by decide +kernel
theorem dX9_accepted_12 : decode cX9_accepted 12 = .ok (.invokevirtual 193, 3) := by decide +kernel
theorem dX9_accepted_15 : decode cX9_accepted 15 = .ok (.ireturn, 1) := by decide +kernel
set_option maxRecDepth 20000 in
theorem ggX9_enter_X9_requireKey : GoodIn wsX9_enter wsX9_requireKey := goodIn_ca (goodIn_r _ [7, 1, 8, 9, 10, 11, 12, 13, 14, 15, 6, 16, 17, 18, 106, 107, 108, 109, 110, 111, 112, 113, 114, 115, 116, 117, 118] (by decide +kernel) (by decide +kernel)) (goodIn_sub (fun _ h => List.mem_cons_of_mem _ (List.mem_append_left _ (List.mem_append_left _ (List.mem_append_right _ h)))) (by decide +kernel))
set_option maxRecDepth 20000 in
theorem gX9_enter_X9_requireKey : GoodIn wsX9_enter (wsV RX9 124 RX9 yX9_requireKey wsX9_requireKey) := goodIn_app (goodIn_of _ (by decide +kernel)) ggX9_enter_X9_requireKey
set_option maxRecDepth 20000 in
theorem ggX9_enter_X9_isCode : GoodIn wsX9_enter wsX9_isCode := goodIn_r _ [21, 22, 23, 6, 24] (by decide +kernel) (by decide +kernel)
set_option maxRecDepth 20000 in
theorem gX9_enter_X9_isCode : GoodIn wsX9_enter (va_wsS RX9 196 yX9_isCode wsX9_isCode) := goodIn_app (goodIn_of _ (by decide +kernel)) ggX9_enter_X9_isCode
set_option maxRecDepth 20000 in
theorem ggX9_enter_X9_requireArgument : GoodIn wsX9_enter wsX9_requireArgument := goodIn_ca (goodIn_r _ [27, 28, 29] (by decide +kernel) (by decide +kernel)) (goodIn_sub (fun _ h => List.mem_cons_of_mem _ (List.mem_append_left _ (List.mem_append_right _ h))) (by decide +kernel))
set_option maxRecDepth 20000 in
theorem gX9_enter_X9_requireArgument : GoodIn wsX9_enter (va_wsS RX9 51 yX9_requireArgument wsX9_requireArgument) := goodIn_app (goodIn_of _ (by decide +kernel)) ggX9_enter_X9_requireArgument
set_option maxRecDepth 20000 in
theorem ggX9_enter_X4_hasRoom : GoodIn wsX9_enter wsX4_hasRoom := goodIn_r _ [34, 35, 119, 120, 121, 122, 123, 124] (by decide +kernel) (by decide +kernel)
set_option maxRecDepth 20000 in
theorem gX9_enter_X4_hasRoom : GoodIn wsX9_enter (wsV RX9 199 RX4 yX4_hasRoom wsX4_hasRoom) := goodIn_app (goodIn_of _ (by decide +kernel)) ggX9_enter_X4_hasRoom
set_option maxRecDepth 20000 in
theorem ggX9_enter_X9_requireState : GoodIn wsX9_enter wsX9_requireState := goodIn_ca (goodIn_r _ [38, 39, 40] (by decide +kernel) (by decide +kernel)) (goodIn_sub (fun _ h => List.mem_cons_of_mem _ (List.mem_append_right _ h)) (by decide +kernel))
set_option maxRecDepth 20000 in
theorem gX9_enter_X9_requireState : GoodIn wsX9_enter (va_wsS RX9 59 yX9_requireState wsX9_requireState) := goodIn_app (goodIn_of _ (by decide +kernel)) ggX9_enter_X9_requireState
set_option maxRecDepth 20000 in
theorem ggX9_enter_X1_remember : GoodIn wsX9_enter wsX1_remember := goodIn_r _ [45, 46, 47, 48, 49, 50, 44, 51, 52, 53, 54, 55, 56, 57, 58, 59, 11, 60, 61, 62, 63, 64, 65, 66, 67, 13, 68, 69, 70, 71, 72, 73, 33, 74, 75, 76, 77, 78, 79, 80, 35, 81, 82, 83, 84, 85, 86, 87, 88, 89, 90, 91, 125, 126, 127, 112, 113, 114, 115, 116, 117, 118, 119, 120, 121, 122, 123, 124, 128, 129, 130, 131, 132] (by decide +kernel) (by decide +kernel)
set_option maxRecDepth 20000 in
theorem gX9_enter_X1_remember : GoodIn wsX9_enter (wsV RX9 202 RX1 yX1_remember wsX1_remember) := goodIn_app (goodIn_of _ (by decide +kernel)) ggX9_enter_X1_remember
set_option maxRecDepth 20000 in
theorem ggX9_enter_X7_enterCode : GoodIn wsX9_enter wsX7_enterCode := goodIn_r _ [95, 61, 96, 97, 98, 33, 99, 35, 75, 77, 78, 79, 80, 100, 31, 32, 34, 101, 102, 103, 11, 104, 63, 105, 9, 10, 12, 13, 112, 113, 114, 115, 116, 117, 118, 119, 120, 121, 122, 123, 124] (by decide +kernel) (by decide +kernel)
set_option maxRecDepth 20000 in
theorem gX9_enter_X7_enterCode : GoodIn wsX9_enter (wsV RX9 205 RX7 yX7_enterCode wsX7_enterCode) := goodIn_app (goodIn_of _ (by decide +kernel)) ggX9_enter_X7_enterCode
theorem dX9_enter_0 : decode cX9_enter 0 = .ok (.aload_n 0, 1) := by decide +kernel
theorem dX9_enter_1 : decode cX9_enter 1 = .ok (.iload_n 1, 1) := by decide +kernel
theorem dX9_enter_2 : decode cX9_enter 2 = .ok (.iload_n 2, 1) := by decide +kernel
theorem dX9_enter_3 : decode cX9_enter 3 = .ok (.invokevirtual 124, 3) := by decide +kernel
theorem dX9_enter_6 : decode cX9_enter 6 = .ok (.iload_n 3, 1) := by decide +kernel
theorem dX9_enter_7 : decode cX9_enter 7 = .ok (.invokestatic 196, 3) := by decide +kernel
theorem dX9_enter_10 : decode cX9_enter 10 = .ok (.invokestatic 51, 3) := by decide +kernel
theorem dX9_enter_13 : decode cX9_enter 13 = .ok (.aload_n 0, 1) := by decide +kernel
theorem dX9_enter_14 : decode cX9_enter 14 = .ok (.getfield 10, 3) := by decide +kernel
theorem dX9_enter_17 : decode cX9_enter 17 = .ok (.getfield 84, 3) := by decide +kernel
theorem dX9_enter_20 : decode cX9_enter 20 = .ok (.invokevirtual 199, 3) := by decide +kernel
theorem dX9_enter_23 : decode cX9_enter 23 = .ok (.invokestatic 59, 3) := by decide +kernel
theorem dX9_enter_26 : decode cX9_enter 26 = .ok (.aload_n 0, 1) := by decide +kernel
theorem dX9_enter_27 : decode cX9_enter 27 = .ok (.getfield 22, 3) := by decide +kernel
theorem dX9_enter_30 : decode cX9_enter 30 = .ok (.aload_n 0, 1) := by decide +kernel
theorem dX9_enter_31 : decode cX9_enter 31 = .ok (.getfield 10, 3) := by decide +kernel
theorem dX9_enter_34 : decode cX9_enter 34 = .ok (.invokevirtual 202, 3) := by decide +kernel
theorem dX9_enter_37 : decode cX9_enter 37 = .ok (.aload_n 0, 1) := by decide +kernel
theorem dX9_enter_38 : decode cX9_enter 38 = .ok (.getfield 10, 3) := by decide +kernel
theorem dX9_enter_41 : decode cX9_enter 41 = .ok (.iload_n 1, 1) := by decide +kernel
theorem dX9_enter_42 : decode cX9_enter 42 = .ok (.iload_n 2, 1) := by decide +kernel
theorem dX9_enter_43 : decode cX9_enter 43 = .ok (.iload_n 3, 1) := by decide +kernel
theorem dX9_enter_44 : decode cX9_enter 44 = .ok (.invokevirtual 205, 3) := by decide +kernel
theorem dX9_enter_47 : decode cX9_enter 47 = .ok (.ireturn, 1) := by decide +kernel
set_option maxRecDepth 20000 in
theorem ggX9_teach_X9_requireKey : GoodIn wsX9_teach wsX9_requireKey := goodIn_ca (goodIn_r _ [7, 1, 8, 9, 10, 11, 12, 13, 14, 15, 6, 16, 17, 18, 136, 137, 138, 139, 140, 141, 142, 143, 144, 145, 146, 147, 148] (by decide +kernel) (by decide +kernel)) (goodIn_sub (fun _ h => List.mem_cons_of_mem _ (List.mem_append_left _ (List.mem_append_left _ (List.mem_append_right _ h)))) (by decide +kernel))
set_option maxRecDepth 20000 in
theorem gX9_teach_X9_requireKey : GoodIn wsX9_teach (wsV RX9 124 RX9 yX9_requireKey wsX9_requireKey) := goodIn_app (goodIn_of _ (by decide +kernel)) ggX9_teach_X9_requireKey
set_option maxRecDepth 20000 in
theorem ggX9_teach_X9_requireArgument : GoodIn wsX9_teach wsX9_requireArgument := goodIn_ca (goodIn_r _ [21, 22, 23] (by decide +kernel) (by decide +kernel)) (goodIn_sub (fun _ h => List.mem_cons_of_mem _ (List.mem_append_left _ (List.mem_append_right _ h))) (by decide +kernel))
set_option maxRecDepth 20000 in
theorem gX9_teach_X9_requireArgument : GoodIn wsX9_teach (va_wsS RX9 51 yX9_requireArgument wsX9_requireArgument) := goodIn_app (goodIn_of _ (by decide +kernel)) ggX9_teach_X9_requireArgument
set_option maxRecDepth 20000 in
theorem ggX9_teach_X7_canTeach : GoodIn wsX9_teach wsX7_canTeach := goodIn_r _ [27, 28, 29, 30, 31, 11, 32, 33, 34, 35, 36, 37, 38, 9, 10, 12, 13, 39, 40, 41, 42, 43, 44, 142, 143, 144, 145, 146, 147, 148, 149, 150, 151, 152, 153, 154] (by decide +kernel) (by decide +kernel)
set_option maxRecDepth 20000 in
theorem gX9_teach_X7_canTeach : GoodIn wsX9_teach (wsV RX9 209 RX7 yX7_canTeach wsX7_canTeach) := goodIn_app (goodIn_of _ (by decide +kernel)) ggX9_teach_X7_canTeach
set_option maxRecDepth 20000 in
theorem ggX9_teach_X9_requireState : GoodIn wsX9_teach wsX9_requireState := goodIn_ca (goodIn_r _ [47, 48, 49] (by decide +kernel) (by decide +kernel)) (goodIn_sub (fun _ h => List.mem_cons_of_mem _ (List.mem_append_right _ h)) (by decide +kernel))
set_option maxRecDepth 20000 in
theorem gX9_teach_X9_requireState : GoodIn wsX9_teach (va_wsS RX9 59 yX9_requireState wsX9_requireState) := goodIn_app (goodIn_of _ (by decide +kernel)) ggX9_teach_X9_requireState
set_option maxRecDepth 20000 in
theorem ggX9_teach_X1_remember : GoodIn wsX9_teach wsX1_remember := goodIn_r _ [54, 55, 56, 57, 58, 59, 53, 60, 61, 62, 63, 64, 65, 66, 67, 68, 11, 69, 28, 70, 37, 71, 72, 73, 74, 13, 75, 76, 77, 78, 79, 80, 42, 81, 82, 83, 84, 85, 86, 87, 44, 88, 89, 90, 91, 92, 93, 94, 95, 96, 97, 98, 155, 156, 157, 142, 143, 144, 145, 146, 147, 148, 149, 150, 151, 152, 153, 154, 158, 159, 160, 161, 162] (by decide +kernel) (by decide +kernel)
set_option maxRecDepth 20000 in
theorem gX9_teach_X1_remember : GoodIn wsX9_teach (wsV RX9 202 RX1 yX1_remember wsX1_remember) := goodIn_app (goodIn_of _ (by decide +kernel)) ggX9_teach_X1_remember
set_option maxRecDepth 20000 in
theorem ggX9_teach_X7_teachKey : GoodIn wsX9_teach wsX7_teachKey := goodIn_r _ [102, 77, 75, 103, 104, 105, 106, 28, 107, 108, 109, 110, 111, 112, 33, 34, 35, 11, 36, 37, 38, 9, 10, 12, 13, 113, 114, 115, 116, 117, 118, 42, 119, 82, 120, 121, 122, 123, 44, 124, 125, 126, 127, 128, 129, 130, 84, 85, 86, 87, 131, 40, 41, 43, 132, 133, 134, 135, 142, 143, 144, 145, 146, 147, 148, 149, 150, 151, 152, 153, 154] (by decide +kernel) (by decide +kernel)
set_option maxRecDepth 20000 in
theorem gX9_teach_X7_teachKey : GoodIn wsX9_teach (wsV RX9 213 RX7 yX7_teachKey wsX7_teachKey) := goodIn_app (goodIn_of _ (by decide +kernel)) ggX9_teach_X7_teachKey
theorem dX9_teach_0 : decode cX9_teach 0 = .ok (.aload_n 0, 1) := by decide +kernel
theorem dX9_teach_1 : decode cX9_teach 1 = .ok (.iload_n 1, 1) := by decide +kernel
theorem dX9_teach_2 : decode cX9_teach 2 = .ok (.iload_n 2, 1) := by decide +kernel
theorem dX9_teach_3 : decode cX9_teach 3 = .ok (.invokevirtual 124, 3) := by decide +kernel
theorem dX9_teach_6 : decode cX9_teach 6 = .ok (.aload_n 0, 1) := by decide +kernel
theorem dX9_teach_7 : decode cX9_teach 7 = .ok (.iload_n 3, 1) := by decide +kernel
theorem dX9_teach_8 : decode cX9_teach 8 = .ok (.iload 4, 2) := by decide +kernel
theorem dX9_teach_10 : decode cX9_teach 10 = .ok (.invokevirtual 124, 3) := by decide +kernel
theorem dX9_teach_13 : decode cX9_teach 13 = .ok (.iload_n 1, 1) := by decide +kernel
theorem dX9_teach_14 : decode cX9_teach 14 = .ok (.iload_n 3, 1) := by decide +kernel
theorem dX9_teach_15 : decode cX9_teach 15 = .ok (.if_icmp .ne 9, 3) := by decide +kernel
theorem dX9_teach_18 : decode cX9_teach 18 = .ok (.iload_n 2, 1) := by decide +kernel
theorem dX9_teach_19 : decode cX9_teach 19 = .ok (.iload 4, 2) := by decide +kernel
theorem dX9_teach_21 : decode cX9_teach 21 = .ok (.if_icmp .eq 7, 3) := by decide +kernel
theorem dX9_teach_24 : decode cX9_teach 24 = .ok (.iconst 1, 1) := by decide +kernel
theorem dX9_teach_25 : decode cX9_teach 25 = .ok (.goto 4, 3) := by decide +kernel
theorem dX9_teach_28 : decode cX9_teach 28 = .ok (.iconst 0, 1) := by decide +kernel
theorem dX9_teach_29 : decode cX9_teach 29 = .ok (.invokestatic 51, 3) := by decide +kernel
theorem dX9_teach_32 : decode cX9_teach 32 = .ok (.aload_n 0, 1) := by decide +kernel
theorem dX9_teach_33 : decode cX9_teach 33 = .ok (.getfield 10, 3) := by decide +kernel
theorem dX9_teach_36 : decode cX9_teach 36 = .ok (.iload_n 1, 1) := by decide +kernel
theorem dX9_teach_37 : decode cX9_teach 37 = .ok (.iload_n 2, 1) := by decide +kernel
theorem dX9_teach_38 : decode cX9_teach 38 = .ok (.invokevirtual 209, 3) := by decide +kernel
theorem dX9_teach_41 : decode cX9_teach 41 = .ok (.invokestatic 59, 3) := by decide +kernel
theorem dX9_teach_44 : decode cX9_teach 44 = .ok (.aload_n 0, 1) := by decide +kernel
theorem dX9_teach_45 : decode cX9_teach 45 = .ok (.getfield 22, 3) := by decide +kernel
theorem dX9_teach_48 : decode cX9_teach 48 = .ok (.aload_n 0, 1) := by decide +kernel
theorem dX9_teach_49 : decode cX9_teach 49 = .ok (.getfield 10, 3) := by decide +kernel
theorem dX9_teach_52 : decode cX9_teach 52 = .ok (.invokevirtual 202, 3) := by decide +kernel
theorem dX9_teach_55 : decode cX9_teach 55 = .ok (.aload_n 0, 1) := by decide +kernel
theorem dX9_teach_56 : decode cX9_teach 56 = .ok (.getfield 10, 3) := by decide +kernel
theorem dX9_teach_59 : decode cX9_teach 59 = .ok (.iload_n 1, 1) := by decide +kernel
theorem dX9_teach_60 : decode cX9_teach 60 = .ok (.iload_n 2, 1) := by decide +kernel
theorem dX9_teach_61 : decode cX9_teach 61 = .ok (.iload_n 3, 1) := by decide +kernel
theorem dX9_teach_62 : decode cX9_teach 62 = .ok (.iload 4, 2) := by decide +kernel
theorem dX9_teach_64 : decode cX9_teach 64 = .ok (.invokevirtual 213, 3) := by decide +kernel
theorem dX9_teach_67 : decode cX9_teach 67 = .ok (.ireturn, 1) := by decide +kernel
set_option maxRecDepth 20000 in
theorem ggX9_erase_X9_requireKey : GoodIn wsX9_erase wsX9_requireKey := goodIn_ca (goodIn_r _ [7, 2, 8, 9, 10, 11, 12, 13, 14, 15, 6, 16, 17, 18, 97, 98, 99, 100, 101, 102, 103, 104, 105, 106, 107, 108, 109] (by decide +kernel) (by decide +kernel)) (goodIn_sub (fun _ h => List.mem_cons_of_mem _ (List.mem_append_right _ h)) (by decide +kernel))
set_option maxRecDepth 20000 in
theorem gX9_erase_X9_requireKey : GoodIn wsX9_erase (wsV RX9 124 RX9 yX9_requireKey wsX9_requireKey) := goodIn_app (goodIn_of _ (by decide +kernel)) ggX9_erase_X9_requireKey
set_option maxRecDepth 20000 in
theorem ggX9_erase_X1_remember : GoodIn wsX9_erase wsX1_remember := goodIn_r _ [23, 24, 25, 26, 27, 28, 22, 29, 30, 31, 32, 33, 34, 35, 36, 37, 11, 38, 39, 40, 41, 42, 43, 44, 45, 13, 46, 47, 48, 49, 50, 51, 52, 53, 54, 55, 56, 57, 58, 59, 60, 61, 62, 63, 64, 65, 66, 67, 68, 69, 70, 71, 110, 111, 112, 103, 104, 105, 106, 107, 108, 109, 113, 114, 115, 116, 117, 118, 119, 120, 121, 122, 123] (by decide +kernel) (by decide +kernel)
set_option maxRecDepth 20000 in
theorem gX9_erase_X1_remember : GoodIn wsX9_erase (wsV RX9 202 RX1 yX1_remember wsX1_remember) := goodIn_app (goodIn_of _ (by decide +kernel)) ggX9_erase_X1_remember
set_option maxRecDepth 20000 in
theorem ggX9_erase_X7_eraseKey : GoodIn wsX9_erase wsX7_eraseKey := goodIn_r _ [75, 76, 77, 78, 11, 79, 39, 80, 81, 82, 83, 41, 84, 9, 10, 12, 13, 85, 86, 87, 52, 88, 54, 89, 90, 91, 92, 60, 93, 94, 95, 96, 103, 104, 105, 106, 107, 108, 109, 113, 114, 115, 116, 117, 118] (by decide +kernel) (by decide +kernel)
set_option maxRecDepth 20000 in
theorem gX9_erase_X7_eraseKey : GoodIn wsX9_erase (wsV RX9 217 RX7 yX7_eraseKey wsX7_eraseKey) := goodIn_app (goodIn_of _ (by decide +kernel)) ggX9_erase_X7_eraseKey
theorem dX9_erase_0 : decode cX9_erase 0 = .ok (.aload_n 0, 1) := by decide +kernel
theorem dX9_erase_1 : decode cX9_erase 1 = .ok (.iload_n 1, 1) := by decide +kernel
theorem dX9_erase_2 : decode cX9_erase 2 = .ok (.iload_n 2, 1) := by decide +kernel
theorem dX9_erase_3 : decode cX9_erase 3 = .ok (.invokevirtual 124, 3) := by decide +kernel
theorem dX9_erase_6 : decode cX9_erase 6 = .ok (.aload_n 0, 1) := by decide +kernel
theorem dX9_erase_7 : decode cX9_erase 7 = .ok (.getfield 22, 3) := by decide +kernel
theorem dX9_erase_10 : decode cX9_erase 10 = .ok (.aload_n 0, 1) := by decide +kernel
theorem dX9_erase_11 : decode cX9_erase 11 = .ok (.getfield 10, 3) := by decide +kernel
theorem dX9_erase_14 : decode cX9_erase 14 = .ok (.invokevirtual 202, 3) := by decide +kernel
theorem dX9_erase_17 : decode cX9_erase 17 = .ok (.aload_n 0, 1) := by decide +kernel
theorem dX9_erase_18 : decode cX9_erase 18 = .ok (.getfield 10, 3) := by decide +kernel
theorem dX9_erase_21 : decode cX9_erase 21 = .ok (.iload_n 1, 1) := by decide +kernel
theorem dX9_erase_22 : decode cX9_erase 22 = .ok (.iload_n 2, 1) := by decide +kernel
theorem dX9_erase_23 : decode cX9_erase 23 = .ok (.invokevirtual 217, 3) := by decide +kernel
theorem dX9_erase_26 : decode cX9_erase 26 = .ok (.ireturn, 1) := by decide +kernel
set_option maxRecDepth 20000 in
theorem ggX9_press_X9_requireKey : GoodIn wsX9_press wsX9_requireKey := goodIn_ca (goodIn_r _ [7, 1, 8, 9, 10, 11, 12, 13, 14, 15, 6, 16, 17, 18, 129, 130, 131, 132, 133, 134, 135, 136, 137, 138, 139, 140, 141] (by decide +kernel) (by decide +kernel)) (goodIn_sub (fun _ h => List.mem_cons_of_mem _ (List.mem_append_left _ (List.mem_append_right _ h))) (by decide +kernel))
set_option maxRecDepth 20000 in
theorem gX9_press_X9_requireKey : GoodIn wsX9_press (wsV RX9 124 RX9 yX9_requireKey wsX9_requireKey) := goodIn_app (goodIn_of _ (by decide +kernel)) ggX9_press_X9_requireKey
set_option maxRecDepth 20000 in
theorem ggX9_press_X7_hasCode : GoodIn wsX9_press wsX7_hasCode := goodIn_r _ [22, 23, 24, 25, 11, 26, 27, 28, 9, 10, 12, 13, 135, 136, 137, 138, 139, 140, 141] (by decide +kernel) (by decide +kernel)
set_option maxRecDepth 20000 in
theorem gX9_press_X7_hasCode : GoodIn wsX9_press (wsV RX9 220 RX7 yX7_hasCode wsX7_hasCode) := goodIn_app (goodIn_of _ (by decide +kernel)) ggX9_press_X7_hasCode
set_option maxRecDepth 20000 in
theorem ggX9_press_X9_requireState : GoodIn wsX9_press wsX9_requireState := goodIn_ca (goodIn_r _ [31, 32, 33] (by decide +kernel) (by decide +kernel)) (goodIn_sub (fun _ h => List.mem_cons_of_mem _ (List.mem_append_right _ h)) (by decide +kernel))
set_option maxRecDepth 20000 in
theorem gX9_press_X9_requireState : GoodIn wsX9_press (va_wsS RX9 59 yX9_requireState wsX9_requireState) := goodIn_app (goodIn_of _ (by decide +kernel)) ggX9_press_X9_requireState
set_option maxRecDepth 20000 in
theorem ggX9_press_X1_remember : GoodIn wsX9_press wsX1_remember := goodIn_r _ [38, 39, 40, 41, 42, 43, 37, 44, 45, 46, 47, 48, 49, 50, 51, 52, 11, 53, 54, 55, 27, 56, 57, 58, 59, 13, 60, 61, 62, 63, 64, 65, 66, 67, 68, 69, 70, 71, 72, 73, 74, 75, 76, 77, 78, 79, 80, 81, 82, 83, 84, 85, 142, 143, 144, 135, 136, 137, 138, 139, 140, 141, 145, 146, 147, 148, 149, 150, 151, 152, 153, 154, 155] (by decide +kernel) (by decide +kernel)
set_option maxRecDepth 20000 in
theorem gX9_press_X1_remember : GoodIn wsX9_press (wsV RX9 202 RX1 yX1_remember wsX1_remember) := goodIn_app (goodIn_of _ (by decide +kernel)) ggX9_press_X1_remember
set_option maxRecDepth 20000 in
theorem ggX9_press_X7_pressKey : GoodIn wsX9_press wsX7_pressKey := goodIn_r _ [89, 55, 61, 90, 91, 92, 11, 93, 54, 23, 24, 25, 26, 27, 28, 9, 10, 12, 13, 94, 95, 96, 66, 97, 68, 98, 99, 100, 101, 74, 102, 103, 104, 78, 105, 84, 106, 107, 108, 109, 80, 110, 111, 112, 113, 82, 83, 114, 115, 116, 117, 118, 119, 120, 121, 122, 123, 124, 125, 126, 127, 128, 85, 135, 136, 137, 138, 139, 140, 141, 145, 146, 147, 148, 149, 150, 151, 152, 153, 154, 155] (by decide +kernel) (by decide +kernel)
set_option maxRecDepth 20000 in
theorem gX9_press_X7_pressKey : GoodIn wsX9_press (wsV RX9 223 RX7 yX7_pressKey wsX7_pressKey) := goodIn_app (goodIn_of _ (by decide +kernel)) ggX9_press_X7_pressKey
theorem dX9_press_0 : decode cX9_press 0 = .ok (.aload_n 0, 1) := by decide +kernel
theorem dX9_press_1 : decode cX9_press 1 = .ok (.iload_n 1, 1) := by decide +kernel
theorem dX9_press_2 : decode cX9_press 2 = .ok (.iload_n 2, 1) := by decide +kernel
theorem dX9_press_3 : decode cX9_press 3 = .ok (.invokevirtual 124, 3) := by decide +kernel
theorem dX9_press_6 : decode cX9_press 6 = .ok (.aload_n 0, 1) := by decide +kernel
theorem dX9_press_7 : decode cX9_press 7 = .ok (.getfield 10, 3) := by decide +kernel
theorem dX9_press_10 : decode cX9_press 10 = .ok (.iload_n 1, 1) := by decide +kernel
theorem dX9_press_11 : decode cX9_press 11 = .ok (.iload_n 2, 1) := by decide +kernel
theorem dX9_press_12 : decode cX9_press 12 = .ok (.invokevirtual 220, 3) := by decide +kernel
theorem dX9_press_15 : decode cX9_press 15 = .ok (.invokestatic 59, 3) := by decide +kernel
theorem dX9_press_18 : decode cX9_press 18 = .ok (.aload_n 0, 1) := by decide +kernel
theorem dX9_press_19 : decode cX9_press 19 = .ok (.getfield 22, 3) := by decide +kernel
theorem dX9_press_22 : decode cX9_press 22 = .ok (.aload_n 0, 1) := by decide +kernel
theorem dX9_press_23 : decode cX9_press 23 = .ok (.getfield 10, 3) := by decide +kernel
theorem dX9_press_26 : decode cX9_press 26 = .ok (.invokevirtual 202, 3) := by decide +kernel
theorem dX9_press_29 : decode cX9_press 29 = .ok (.aload_n 0, 1) := by decide +kernel
theorem dX9_press_30 : decode cX9_press 30 = .ok (.getfield 10, 3) := by decide +kernel
theorem dX9_press_33 : decode cX9_press 33 = .ok (.iload_n 1, 1) := by decide +kernel
theorem dX9_press_34 : decode cX9_press 34 = .ok (.iload_n 2, 1) := by decide +kernel
theorem dX9_press_35 : decode cX9_press 35 = .ok (.invokevirtual 223, 3) := by decide +kernel
theorem dX9_press_38 : decode cX9_press 38 = .ok (.ireturn, 1) := by decide +kernel
set_option maxRecDepth 20000 in
theorem ggX9_addDevice_X7_hasHouse : GoodIn wsX9_addDevice wsX7_hasHouse := goodIn_r _ [7, 8, 102, 103, 104, 105, 106, 107, 108] (by decide +kernel) (by decide +kernel)
set_option maxRecDepth 20000 in
theorem gX9_addDevice_X7_hasHouse : GoodIn wsX9_addDevice (wsV RX9 226 RX7 yX7_hasHouse wsX7_hasHouse) := goodIn_app (goodIn_of _ (by decide +kernel)) ggX9_addDevice_X7_hasHouse
set_option maxRecDepth 20000 in
theorem ggX9_addDevice_X9_requirePlace : GoodIn wsX9_addDevice wsX9_requirePlace := goodIn_ca (goodIn_r _ [12, 13, 14] (by decide +kernel) (by decide +kernel)) (goodIn_sub (fun _ h => List.mem_cons_of_mem _ (List.mem_append_left _ (List.mem_append_left _ (List.mem_append_right _ h)))) (by decide +kernel))
set_option maxRecDepth 20000 in
theorem gX9_addDevice_X9_requirePlace : GoodIn wsX9_addDevice (va_wsS RX9 154 yX9_requirePlace wsX9_requirePlace) := goodIn_app (goodIn_of _ (by decide +kernel)) ggX9_addDevice_X9_requirePlace
set_option maxRecDepth 20000 in
theorem ggX9_addDevice_X9_isCode : GoodIn wsX9_addDevice wsX9_isCode := goodIn_r _ [17, 18, 19, 11, 20] (by decide +kernel) (by decide +kernel)
set_option maxRecDepth 20000 in
theorem gX9_addDevice_X9_isCode : GoodIn wsX9_addDevice (va_wsS RX9 196 yX9_isCode wsX9_isCode) := goodIn_app (goodIn_of _ (by decide +kernel)) ggX9_addDevice_X9_isCode
set_option maxRecDepth 20000 in
theorem ggX9_addDevice_X9_isTolerance : GoodIn wsX9_addDevice wsX9_isTolerance := goodIn_r _ [23, 18, 19, 11, 20] (by decide +kernel) (by decide +kernel)
set_option maxRecDepth 20000 in
theorem gX9_addDevice_X9_isTolerance : GoodIn wsX9_addDevice (va_wsS RX9 229 yX9_isTolerance wsX9_isTolerance) := goodIn_app (goodIn_of _ (by decide +kernel)) ggX9_addDevice_X9_isTolerance
set_option maxRecDepth 20000 in
theorem ggX9_addDevice_X9_requireArgument : GoodIn wsX9_addDevice wsX9_requireArgument := goodIn_ca (goodIn_r _ [26, 27, 28] (by decide +kernel) (by decide +kernel)) (goodIn_sub (fun _ h => List.mem_cons_of_mem _ (List.mem_append_left _ (List.mem_append_right _ h))) (by decide +kernel))
set_option maxRecDepth 20000 in
theorem gX9_addDevice_X9_requireArgument : GoodIn wsX9_addDevice (va_wsS RX9 51 yX9_requireArgument wsX9_requireArgument) := goodIn_app (goodIn_of _ (by decide +kernel)) ggX9_addDevice_X9_requireArgument
set_option maxRecDepth 20000 in
theorem ggX9_addDevice_X0_hasRoom : GoodIn wsX9_addDevice wsX0_hasRoom := goodIn_r _ [33, 34, 109, 110, 111, 112, 113] (by decide +kernel) (by decide +kernel)
set_option maxRecDepth 20000 in
theorem gX9_addDevice_X0_hasRoom : GoodIn wsX9_addDevice (wsV RX9 232 RX0 yX0_hasRoom wsX0_hasRoom) := goodIn_app (goodIn_of _ (by decide +kernel)) ggX9_addDevice_X0_hasRoom
set_option maxRecDepth 20000 in
theorem ggX9_addDevice_X9_requireState : GoodIn wsX9_addDevice wsX9_requireState := goodIn_ca (goodIn_r _ [37, 38, 39] (by decide +kernel) (by decide +kernel)) (goodIn_sub (fun _ h => List.mem_cons_of_mem _ (List.mem_append_right _ h)) (by decide +kernel))
set_option maxRecDepth 20000 in
theorem gX9_addDevice_X9_requireState : GoodIn wsX9_addDevice (va_wsS RX9 59 yX9_requireState wsX9_requireState) := goodIn_app (goodIn_of _ (by decide +kernel)) ggX9_addDevice_X9_requireState
set_option maxRecDepth 20000 in
theorem ggX9_addDevice_X1_remember : GoodIn wsX9_addDevice wsX1_remember := goodIn_r _ [44, 45, 46, 47, 48, 49, 43, 50, 51, 52, 53, 54, 55, 56, 57, 58, 6, 59, 60, 61, 62, 63, 64, 65, 66, 8, 67, 68, 69, 70, 71, 72, 73, 74, 75, 76, 77, 78, 79, 80, 81, 82, 83, 84, 32, 85, 86, 87, 88, 89, 34, 90, 114, 115, 116, 102, 103, 104, 105, 106, 107, 108, 117, 118, 119, 120, 121, 122, 109, 110, 111, 112, 113] (by decide +kernel) (by decide +kernel)
set_option maxRecDepth 20000 in
theorem gX9_addDevice_X1_remember : GoodIn wsX9_addDevice (wsV RX9 202 RX1 yX1_remember wsX1_remember) := goodIn_app (goodIn_of _ (by decide +kernel)) ggX9_addDevice_X1_remember
set_option maxRecDepth 20000 in
theorem ggX9_addDevice_X0_add : GoodIn wsX9_addDevice wsX0_add := goodIn_r _ [94, 34, 86, 88, 89, 95, 30, 31, 32, 33, 109, 110, 111, 112, 113] (by decide +kernel) (by decide +kernel)
set_option maxRecDepth 20000 in
theorem gX9_addDevice_X0_add : GoodIn wsX9_addDevice (wsV RX9 233 RX0 yX0_add wsX0_add) := goodIn_app (goodIn_of _ (by decide +kernel)) ggX9_addDevice_X0_add
theorem dX9_addDevice_0 : decode cX9_addDevice 0 = .ok (.aload_n 0, 1) := by decide +kernel
theorem dX9_addDevice_1 : decode cX9_addDevice 1 = .ok (.getfield 10, 3) := by decide +kernel
theorem dX9_addDevice_4 : decode cX9_addDevice 4 = .ok (.iload_n 1, 1) := by decide +kernel
theorem dX9_addDevice_5 : decode cX9_addDevice 5 = .ok (.invokevirtual 226, 3) := by decide +kernel
theorem dX9_addDevice_8 : decode cX9_addDevice 8 = .ok (.invokestatic 154, 3) := by decide +kernel
theorem dX9_addDevice_11 : decode cX9_addDevice 11 = .ok (.iload_n 2, 1) := by decide +kernel
theorem dX9_addDevice_12 : decode cX9_addDevice 12 = .ok (.invokestatic 196, 3) := by decide +kernel
theorem dX9_addDevice_15 : decode cX9_addDevice 15 = .ok (.ifCond .eq 14, 3) := by decide +kernel
theorem dX9_addDevice_18 : decode cX9_addDevice 18 = .ok (.iload_n 3, 1) := by decide +kernel
theorem dX9_addDevice_19 : decode cX9_addDevice 19 = .ok (.invokestatic 229, 3) := by decide +kernel
theorem dX9_addDevice_22 : decode cX9_addDevice 22 = .ok (.ifCond .eq 7, 3) := by decide +kernel
theorem dX9_addDevice_25 : decode cX9_addDevice 25 = .ok (.iconst 1, 1) := by decide +kernel
theorem dX9_addDevice_26 : decode cX9_addDevice 26 = .ok (.goto 4, 3) := by decide +kernel
theorem dX9_addDevice_29 : decode cX9_addDevice 29 = .ok (.iconst 0, 1) := by decide +kernel
theorem dX9_addDevice_30 : decode cX9_addDevice 30 = .ok (.invokestatic 51, 3) := by decide +kernel
theorem dX9_addDevice_33 : decode cX9_addDevice 33 = .ok (.aload_n 0, 1) := by decide +kernel
theorem dX9_addDevice_34 : decode cX9_addDevice 34 = .ok (.getfield 10, 3) := by decide +kernel
theorem dX9_addDevice_37 : decode cX9_addDevice 37 = .ok (.getfield 96, 3) := by decide +kernel
theorem dX9_addDevice_40 : decode cX9_addDevice 40 = .ok (.invokevirtual 232, 3) := by decide +kernel
theorem dX9_addDevice_43 : decode cX9_addDevice 43 = .ok (.invokestatic 59, 3) := by decide +kernel
theorem dX9_addDevice_46 : decode cX9_addDevice 46 = .ok (.aload_n 0, 1) := by decide +kernel
theorem dX9_addDevice_47 : decode cX9_addDevice 47 = .ok (.getfield 22, 3) := by decide +kernel
theorem dX9_addDevice_50 : decode cX9_addDevice 50 = .ok (.aload_n 0, 1) := by decide +kernel
theorem dX9_addDevice_51 : decode cX9_addDevice 51 = .ok (.getfield 10, 3) := by decide +kernel
theorem dX9_addDevice_54 : decode cX9_addDevice 54 = .ok (.invokevirtual 202, 3) := by decide +kernel
theorem dX9_addDevice_57 : decode cX9_addDevice 57 = .ok (.aload_n 0, 1) := by decide +kernel
theorem dX9_addDevice_58 : decode cX9_addDevice 58 = .ok (.getfield 10, 3) := by decide +kernel
theorem dX9_addDevice_61 : decode cX9_addDevice 61 = .ok (.getfield 96, 3) := by decide +kernel
theorem dX9_addDevice_64 : decode cX9_addDevice 64 = .ok (.iload_n 1, 1) := by decide +kernel
theorem dX9_addDevice_65 : decode cX9_addDevice 65 = .ok (.iload_n 2, 1) := by decide +kernel
theorem dX9_addDevice_66 : decode cX9_addDevice 66 = .ok (.iload_n 3, 1) := by decide +kernel
theorem dX9_addDevice_67 : decode cX9_addDevice 67 = .ok (.invokevirtual 233, 3) := by decide +kernel
theorem dX9_addDevice_70 : decode cX9_addDevice 70 = .ok (.ireturn, 1) := by decide +kernel
set_option maxRecDepth 20000 in
theorem ggX9_setTolerance_X0_has : GoodIn wsX9_setTolerance wsX0_has := goodIn_r _ [7, 8, 101, 102, 103, 104, 105] (by decide +kernel) (by decide +kernel)
set_option maxRecDepth 20000 in
theorem gX9_setTolerance_X0_has : GoodIn wsX9_setTolerance (wsV RX9 172 RX0 yX0_has wsX0_has) := goodIn_app (goodIn_of _ (by decide +kernel)) ggX9_setTolerance_X0_has
set_option maxRecDepth 20000 in
theorem ggX9_setTolerance_X9_requirePlace : GoodIn wsX9_setTolerance wsX9_requirePlace := goodIn_ca (goodIn_r _ [12, 13, 14] (by decide +kernel) (by decide +kernel)) (goodIn_sub (fun _ h => List.mem_cons_of_mem _ (List.mem_append_left _ (List.mem_append_right _ h))) (by decide +kernel))
set_option maxRecDepth 20000 in
theorem gX9_setTolerance_X9_requirePlace : GoodIn wsX9_setTolerance (va_wsS RX9 154 yX9_requirePlace wsX9_requirePlace) := goodIn_app (goodIn_of _ (by decide +kernel)) ggX9_setTolerance_X9_requirePlace
set_option maxRecDepth 20000 in
theorem ggX9_setTolerance_X9_isTolerance : GoodIn wsX9_setTolerance wsX9_isTolerance := goodIn_r _ [17, 18, 19, 11, 20] (by decide +kernel) (by decide +kernel)
set_option maxRecDepth 20000 in
theorem gX9_setTolerance_X9_isTolerance : GoodIn wsX9_setTolerance (va_wsS RX9 229 yX9_isTolerance wsX9_isTolerance) := goodIn_app (goodIn_of _ (by decide +kernel)) ggX9_setTolerance_X9_isTolerance
set_option maxRecDepth 20000 in
theorem ggX9_setTolerance_X9_requireArgument : GoodIn wsX9_setTolerance wsX9_requireArgument := goodIn_ca (goodIn_r _ [23, 24, 25] (by decide +kernel) (by decide +kernel)) (goodIn_sub (fun _ h => List.mem_cons_of_mem _ (List.mem_append_right _ h)) (by decide +kernel))
set_option maxRecDepth 20000 in
theorem gX9_setTolerance_X9_requireArgument : GoodIn wsX9_setTolerance (va_wsS RX9 51 yX9_requireArgument wsX9_requireArgument) := goodIn_app (goodIn_of _ (by decide +kernel)) ggX9_setTolerance_X9_requireArgument
set_option maxRecDepth 20000 in
theorem ggX9_setTolerance_X1_remember : GoodIn wsX9_setTolerance wsX1_remember := goodIn_r _ [30, 31, 32, 33, 34, 35, 29, 36, 37, 38, 39, 40, 41, 42, 43, 44, 45, 46, 47, 48, 49, 50, 51, 52, 53, 54, 55, 56, 57, 58, 59, 60, 61, 62, 63, 64, 65, 66, 67, 68, 69, 70, 71, 72, 6, 73, 74, 75, 76, 77, 8, 78, 106, 107, 108, 94, 95, 96, 97, 98, 99, 100, 109, 110, 111, 112, 113, 114, 101, 102, 103, 104, 105] (by decide +kernel) (by decide +kernel)
set_option maxRecDepth 20000 in
theorem gX9_setTolerance_X1_remember : GoodIn wsX9_setTolerance (wsV RX9 202 RX1 yX1_remember wsX1_remember) := goodIn_app (goodIn_of _ (by decide +kernel)) ggX9_setTolerance_X1_remember
set_option maxRecDepth 20000 in
theorem ggX9_setTolerance_X0_changeTolerance : GoodIn wsX9_setTolerance wsX0_changeTolerance := goodIn_r _ [82, 77, 83, 84, 85, 6, 86, 87, 4, 5, 7, 8, 101, 102, 103, 104, 105] (by decide +kernel) (by decide +kernel)
set_option maxRecDepth 20000 in
theorem gX9_setTolerance_X0_changeTolerance : GoodIn wsX9_setTolerance (wsV RX9 235 RX0 yX0_changeTolerance wsX0_changeTolerance) := goodIn_app (goodIn_of _ (by decide +kernel)) ggX9_setTolerance_X0_changeTolerance
theorem dX9_setTolerance_0 : decode cX9_setTolerance 0 = .ok (.aload_n 0, 1) := by decide +kernel
theorem dX9_setTolerance_1 : decode cX9_setTolerance 1 = .ok (.getfield 10, 3) := by decide +kernel
theorem dX9_setTolerance_4 : decode cX9_setTolerance 4 = .ok (.getfield 96, 3) := by decide +kernel
theorem dX9_setTolerance_7 : decode cX9_setTolerance 7 = .ok (.iload_n 1, 1) := by decide +kernel
theorem dX9_setTolerance_8 : decode cX9_setTolerance 8 = .ok (.invokevirtual 172, 3) := by decide +kernel
theorem dX9_setTolerance_11 : decode cX9_setTolerance 11 = .ok (.invokestatic 154, 3) := by decide +kernel
theorem dX9_setTolerance_14 : decode cX9_setTolerance 14 = .ok (.iload_n 2, 1) := by decide +kernel
theorem dX9_setTolerance_15 : decode cX9_setTolerance 15 = .ok (.invokestatic 229, 3) := by decide +kernel
theorem dX9_setTolerance_18 : decode cX9_setTolerance 18 = .ok (.invokestatic 51, 3) := by decide +kernel
theorem dX9_setTolerance_21 : decode cX9_setTolerance 21 = .ok (.aload_n 0, 1) := by decide +kernel
theorem dX9_setTolerance_22 : decode cX9_setTolerance 22 = .ok (.getfield 22, 3) := by decide +kernel
theorem dX9_setTolerance_25 : decode cX9_setTolerance 25 = .ok (.aload_n 0, 1) := by decide +kernel
theorem dX9_setTolerance_26 : decode cX9_setTolerance 26 = .ok (.getfield 10, 3) := by decide +kernel
theorem dX9_setTolerance_29 : decode cX9_setTolerance 29 = .ok (.invokevirtual 202, 3) := by decide +kernel
theorem dX9_setTolerance_32 : decode cX9_setTolerance 32 = .ok (.aload_n 0, 1) := by decide +kernel
theorem dX9_setTolerance_33 : decode cX9_setTolerance 33 = .ok (.getfield 10, 3) := by decide +kernel
theorem dX9_setTolerance_36 : decode cX9_setTolerance 36 = .ok (.getfield 96, 3) := by decide +kernel
theorem dX9_setTolerance_39 : decode cX9_setTolerance 39 = .ok (.iload_n 1, 1) := by decide +kernel
theorem dX9_setTolerance_40 : decode cX9_setTolerance 40 = .ok (.iload_n 2, 1) := by decide +kernel
theorem dX9_setTolerance_41 : decode cX9_setTolerance 41 = .ok (.invokevirtual 235, 3) := by decide +kernel
theorem dX9_setTolerance_44 : decode cX9_setTolerance 44 = .ok (.ireturn, 1) := by decide +kernel
set_option maxRecDepth 20000 in
theorem ggX9_set_X9_isSetting : GoodIn wsX9_set wsX9_isSetting := goodIn_r _ [6, 7, 8, 5, 9] (by decide +kernel) (by decide +kernel)
set_option maxRecDepth 20000 in
theorem gX9_set_X9_isSetting : GoodIn wsX9_set (va_wsS RX9 238 yX9_isSetting wsX9_isSetting) := goodIn_app (goodIn_of _ (by decide +kernel)) ggX9_set_X9_isSetting
set_option maxRecDepth 20000 in
theorem ggX9_set_X9_requireArgument : GoodIn wsX9_set wsX9_requireArgument := goodIn_ca (goodIn_r _ [12, 13, 14] (by decide +kernel) (by decide +kernel)) (goodIn_sub (fun _ h => List.mem_cons_of_mem _ (List.mem_append_right _ h)) (by decide +kernel))
set_option maxRecDepth 20000 in
theorem gX9_set_X9_requireArgument : GoodIn wsX9_set (va_wsS RX9 51 yX9_requireArgument wsX9_requireArgument) := goodIn_app (goodIn_of _ (by decide +kernel)) ggX9_set_X9_requireArgument
set_option maxRecDepth 20000 in
theorem ggX9_set_X1_remember : GoodIn wsX9_set wsX1_remember := goodIn_r _ [19, 20, 21, 22, 23, 24, 18, 25, 26, 27, 28, 29, 30, 31, 32, 33, 34, 35, 36, 37, 38, 39, 40, 41, 42, 43, 44, 45, 46, 47, 48, 49, 50, 51, 52, 53, 54, 55, 56, 57, 58, 59, 60, 61, 62, 63, 64, 65, 66, 67, 68, 69, 80, 81, 82, 83, 84, 85, 86, 87, 88, 89, 90, 91, 92, 93, 94, 95, 96, 97, 98, 99, 100] (by decide +kernel) (by decide +kernel)
set_option maxRecDepth 20000 in
theorem gX9_set_X1_remember : GoodIn wsX9_set (wsV RX9 202 RX1 yX1_remember wsX1_remember) := goodIn_app (goodIn_of _ (by decide +kernel)) ggX9_set_X1_remember
set_option maxRecDepth 20000 in
theorem ggX9_set_X7_changeSetting : GoodIn wsX9_set wsX7_changeSetting := goodIn_r _ [73, 44, 45, 83, 84, 85, 86, 87, 88, 89] (by decide +kernel) (by decide +kernel)
set_option maxRecDepth 20000 in
theorem gX9_set_X7_changeSetting : GoodIn wsX9_set (wsV RX9 241 RX7 yX7_changeSetting wsX7_changeSetting) := goodIn_app (goodIn_of _ (by decide +kernel)) ggX9_set_X7_changeSetting
theorem dX9_set_0 : decode cX9_set 0 = .ok (.iload_n 1, 1) := by decide +kernel
theorem dX9_set_1 : decode cX9_set 1 = .ok (.iload_n 2, 1) := by decide +kernel
theorem dX9_set_2 : decode cX9_set 2 = .ok (.invokestatic 238, 3) := by decide +kernel
theorem dX9_set_5 : decode cX9_set 5 = .ok (.invokestatic 51, 3) := by decide +kernel
theorem dX9_set_8 : decode cX9_set 8 = .ok (.aload_n 0, 1) := by decide +kernel
theorem dX9_set_9 : decode cX9_set 9 = .ok (.getfield 22, 3) := by decide +kernel
theorem dX9_set_12 : decode cX9_set 12 = .ok (.aload_n 0, 1) := by decide +kernel
theorem dX9_set_13 : decode cX9_set 13 = .ok (.getfield 10, 3) := by decide +kernel
theorem dX9_set_16 : decode cX9_set 16 = .ok (.invokevirtual 202, 3) := by decide +kernel
theorem dX9_set_19 : decode cX9_set 19 = .ok (.aload_n 0, 1) := by decide +kernel
theorem dX9_set_20 : decode cX9_set 20 = .ok (.getfield 10, 3) := by decide +kernel
theorem dX9_set_23 : decode cX9_set 23 = .ok (.iload_n 1, 1) := by decide +kernel
theorem dX9_set_24 : decode cX9_set 24 = .ok (.iload_n 2, 1) := by decide +kernel
theorem dX9_set_25 : decode cX9_set 25 = .ok (.invokevirtual 241, 3) := by decide +kernel
theorem dX9_set_28 : decode cX9_set 28 = .ok (.ireturn, 1) := by decide +kernel
set_option maxRecDepth 20000 in
theorem ggX9_undo_X1_count : GoodIn wsX9_undo wsX1_count := goodIn_r _ [7, 8, 74, 75, 76] (by decide +kernel) (by decide +kernel)
set_option maxRecDepth 20000 in
theorem gX9_undo_X1_count : GoodIn wsX9_undo (wsV RX9 244 RX1 yX1_count wsX1_count) := goodIn_app (goodIn_of _ (by decide +kernel)) ggX9_undo_X1_count
set_option maxRecDepth 20000 in
theorem ggX9_undo_X9_requireState : GoodIn wsX9_undo wsX9_requireState := goodIn_ca (goodIn_r _ [12, 13, 14] (by decide +kernel) (by decide +kernel)) (goodIn_sub (fun _ h => List.mem_cons_of_mem _ (List.mem_append_right _ h)) (by decide +kernel))
set_option maxRecDepth 20000 in
theorem gX9_undo_X9_requireState : GoodIn wsX9_undo (va_wsS RX9 59 yX9_requireState wsX9_requireState) := goodIn_app (goodIn_of _ (by decide +kernel)) ggX9_undo_X9_requireState
set_option maxRecDepth 20000 in
theorem ggX9_undo_X1_takeBack : GoodIn wsX9_undo wsX1_takeBack := goodIn_r _ [18, 8, 19, 20, 21, 6, 22, 23, 24, 25, 26, 27, 28, 29, 30, 31, 32, 33, 34, 35, 36, 37, 38, 39, 40, 41, 42, 43, 44, 45, 46, 47, 48, 49, 50, 51, 52, 53, 54, 55, 56, 57, 58, 59, 60, 61, 62, 63, 64, 65, 66, 67, 74, 75, 76, 77, 78, 79, 80, 81, 82, 83, 84, 85, 86, 87, 88, 89, 90, 91, 92, 93, 94] (by decide +kernel) (by decide +kernel)
set_option maxRecDepth 20000 in
theorem gX9_undo_X1_takeBack : GoodIn wsX9_undo (wsV RX9 245 RX1 yX1_takeBack wsX1_takeBack) := goodIn_app (goodIn_of _ (by decide +kernel)) ggX9_undo_X1_takeBack
theorem dX9_undo_0 : decode cX9_undo 0 = .ok (.aload_n 0, 1) := by decide +kernel
theorem dX9_undo_1 : decode cX9_undo 1 = .ok (.getfield 22, 3) := by decide +kernel
theorem dX9_undo_4 : decode cX9_undo 4 = .ok (.invokevirtual 244, 3) := by decide +kernel
theorem dX9_undo_7 : decode cX9_undo 7 = .ok (.ifCond .le 7, 3) := by decide +kernel
theorem dX9_undo_10 : decode cX9_undo 10 = .ok (.iconst 1, 1) := by decide +kernel
theorem dX9_undo_11 : decode cX9_undo 11 = .ok (.goto 4, 3) := by decide +kernel
theorem dX9_undo_14 : decode cX9_undo 14 = .ok (.iconst 0, 1) := by decide +kernel
theorem dX9_undo_15 : decode cX9_undo 15 = .ok (.invokestatic 59, 3) := by decide +kernel
theorem dX9_undo_18 : decode cX9_undo 18 = .ok (.aload_n 0, 1) := by decide +kernel
theorem dX9_undo_19 : decode cX9_undo 19 = .ok (.getfield 22, 3) := by decide +kernel
theorem dX9_undo_22 : decode cX9_undo 22 = .ok (.aload_n 0, 1) := by decide +kernel
theorem dX9_undo_23 : decode cX9_undo 23 = .ok (.getfield 10, 3) := by decide +kernel
theorem dX9_undo_26 : decode cX9_undo 26 = .ok (.invokevirtual 245, 3) := by decide +kernel
theorem dX9_undo_29 : decode cX9_undo 29 = .ok (.ireturn, 1) := by decide +kernel
set_option maxRecDepth 20000 in
theorem ggX9_wouldBe_X9_requireKey : GoodIn wsX9_wouldBe wsX9_requireKey := goodIn_ca (goodIn_r _ [6, 1, 7, 8, 9, 10, 11, 12, 13, 14, 5, 15, 16, 17, 73, 74, 75, 76, 77, 78, 79, 80, 81, 82, 83, 84, 85] (by decide +kernel) (by decide +kernel)) (goodIn_sub (fun _ h => List.mem_cons_of_mem _ (List.mem_append_right _ h)) (by decide +kernel))
set_option maxRecDepth 20000 in
theorem gX9_wouldBe_X9_requireKey : GoodIn wsX9_wouldBe (wsV RX9 124 RX9 yX9_requireKey wsX9_requireKey) := goodIn_app (goodIn_of _ (by decide +kernel)) ggX9_wouldBe_X9_requireKey
set_option maxRecDepth 20000 in
theorem ggX9_wouldBe_X7_hasHouse : GoodIn wsX9_wouldBe wsX7_hasHouse := goodIn_r _ [21, 12, 79, 80, 81, 82, 83, 84, 85] (by decide +kernel) (by decide +kernel)
set_option maxRecDepth 20000 in
theorem gX9_wouldBe_X7_hasHouse : GoodIn wsX9_wouldBe (wsV RX9 226 RX7 yX7_hasHouse wsX7_hasHouse) := goodIn_app (goodIn_of _ (by decide +kernel)) ggX9_wouldBe_X7_hasHouse
set_option maxRecDepth 20000 in
theorem ggX9_wouldBe_X9_requirePlace : GoodIn wsX9_wouldBe wsX9_requirePlace := goodIn_ca (goodIn_r _ [15, 16, 17] (by decide +kernel) (by decide +kernel)) (goodIn_sub (fun _ h => List.mem_cons_of_mem _ (List.mem_append_right _ h)) (by decide +kernel))
set_option maxRecDepth 20000 in
theorem gX9_wouldBe_X9_requirePlace : GoodIn wsX9_wouldBe (va_wsS RX9 154 yX9_requirePlace wsX9_requirePlace) := goodIn_app (goodIn_of _ (by decide +kernel)) ggX9_wouldBe_X9_requirePlace
set_option maxRecDepth 20000 in
theorem ggX9_wouldBe_X7_codeIfTaught : GoodIn wsX9_wouldBe wsX7_codeIfTaught := goodIn_r _ [25, 26, 27, 28, 29, 30, 31, 32, 33, 34, 10, 35, 36, 37, 38, 39, 40, 41, 8, 9, 11, 12, 42, 43, 44, 45, 46, 47, 48, 49, 50, 51, 52, 53, 54, 55, 56, 57, 58, 59, 60, 61, 62, 63, 64, 65, 66, 67, 68, 69, 70, 71, 72, 79, 80, 81, 82, 83, 84, 85, 86, 87, 88, 89, 90, 91] (by decide +kernel) (by decide +kernel)
set_option maxRecDepth 20000 in
theorem gX9_wouldBe_X7_codeIfTaught : GoodIn wsX9_wouldBe (wsV RX9 249 RX7 yX7_codeIfTaught wsX7_codeIfTaught) := goodIn_app (goodIn_of _ (by decide +kernel)) ggX9_wouldBe_X7_codeIfTaught
theorem dX9_wouldBe_0 : decode cX9_wouldBe 0 = .ok (.aload_n 0, 1) := by decide +kernel
theorem dX9_wouldBe_1 : decode cX9_wouldBe 1 = .ok (.iload_n 1, 1) := by decide +kernel
theorem dX9_wouldBe_2 : decode cX9_wouldBe 2 = .ok (.iload_n 2, 1) := by decide +kernel
theorem dX9_wouldBe_3 : decode cX9_wouldBe 3 = .ok (.invokevirtual 124, 3) := by decide +kernel
theorem dX9_wouldBe_6 : decode cX9_wouldBe 6 = .ok (.aload_n 0, 1) := by decide +kernel
theorem dX9_wouldBe_7 : decode cX9_wouldBe 7 = .ok (.getfield 10, 3) := by decide +kernel
theorem dX9_wouldBe_10 : decode cX9_wouldBe 10 = .ok (.iload_n 3, 1) := by decide +kernel
theorem dX9_wouldBe_11 : decode cX9_wouldBe 11 = .ok (.invokevirtual 226, 3) := by decide +kernel
theorem dX9_wouldBe_14 : decode cX9_wouldBe 14 = .ok (.invokestatic 154, 3) := by decide +kernel
theorem dX9_wouldBe_17 : decode cX9_wouldBe 17 = .ok (.aload_n 0, 1) := by decide +kernel
theorem dX9_wouldBe_18 : decode cX9_wouldBe 18 = .ok (.getfield 10, 3) := by decide +kernel
theorem dX9_wouldBe_21 : decode cX9_wouldBe 21 = .ok (.iload_n 1, 1) := by decide +kernel
theorem dX9_wouldBe_22 : decode cX9_wouldBe 22 = .ok (.iload_n 2, 1) := by decide +kernel
theorem dX9_wouldBe_23 : decode cX9_wouldBe 23 = .ok (.iload_n 3, 1) := by decide +kernel
theorem dX9_wouldBe_24 : decode cX9_wouldBe 24 = .ok (.invokevirtual 249, 3) := by decide +kernel
theorem dX9_wouldBe_27 : decode cX9_wouldBe 27 = .ok (.ireturn, 1) := by decide +kernel
set_option maxRecDepth 20000 in
theorem ggX9_handed_X9_requireKey : GoodIn wsX9_handed wsX9_requireKey := goodIn_ca (goodIn_r _ [6, 1, 7, 8, 9, 10, 11, 12, 13, 14, 5, 15, 16, 17, 69, 70, 71, 72, 73, 74, 75, 76, 77, 78, 79, 80, 81] (by decide +kernel) (by decide +kernel)) (goodIn_sub (fun _ h => List.mem_cons_of_mem _ (List.mem_append_right _ h)) (by decide +kernel))
set_option maxRecDepth 20000 in
theorem gX9_handed_X9_requireKey : GoodIn wsX9_handed (wsV RX9 124 RX9 yX9_requireKey wsX9_requireKey) := goodIn_app (goodIn_of _ (by decide +kernel)) ggX9_handed_X9_requireKey
set_option maxRecDepth 20000 in
theorem ggX9_handed_X7_hasHouse : GoodIn wsX9_handed wsX7_hasHouse := goodIn_r _ [21, 12, 75, 76, 77, 78, 79, 80, 81] (by decide +kernel) (by decide +kernel)
set_option maxRecDepth 20000 in
theorem gX9_handed_X7_hasHouse : GoodIn wsX9_handed (wsV RX9 226 RX7 yX7_hasHouse wsX7_hasHouse) := goodIn_app (goodIn_of _ (by decide +kernel)) ggX9_handed_X7_hasHouse
set_option maxRecDepth 20000 in
theorem ggX9_handed_X9_requirePlace : GoodIn wsX9_handed wsX9_requirePlace := goodIn_ca (goodIn_r _ [15, 16, 17] (by decide +kernel) (by decide +kernel)) (goodIn_sub (fun _ h => List.mem_cons_of_mem _ (List.mem_append_right _ h)) (by decide +kernel))
set_option maxRecDepth 20000 in
theorem gX9_handed_X9_requirePlace : GoodIn wsX9_handed (va_wsS RX9 154 yX9_requirePlace wsX9_requirePlace) := goodIn_app (goodIn_of _ (by decide +kernel)) ggX9_handed_X9_requirePlace
set_option maxRecDepth 20000 in
theorem ggX9_handed_X7_codeIfHanded : GoodIn wsX9_handed wsX7_codeIfHanded := goodIn_r _ [25, 26, 27, 28, 29, 30, 31, 32, 33, 34, 10, 35, 36, 37, 38, 39, 40, 41, 42, 8, 9, 11, 12, 43, 44, 45, 46, 47, 48, 49, 50, 51, 52, 53, 54, 55, 56, 57, 58, 59, 60, 61, 62, 63, 64, 65, 66, 67, 68, 75, 76, 77, 78, 79, 80, 81, 82, 83, 84, 85, 86, 87] (by decide +kernel) (by decide +kernel)
set_option maxRecDepth 20000 in
theorem gX9_handed_X7_codeIfHanded : GoodIn wsX9_handed (wsV RX9 252 RX7 yX7_codeIfHanded wsX7_codeIfHanded) := goodIn_app (goodIn_of _ (by decide +kernel)) ggX9_handed_X7_codeIfHanded
theorem dX9_handed_0 : decode cX9_handed 0 = .ok (.aload_n 0, 1) := by decide +kernel
theorem dX9_handed_1 : decode cX9_handed 1 = .ok (.iload_n 1, 1) := by decide +kernel
theorem dX9_handed_2 : decode cX9_handed 2 = .ok (.iload_n 2, 1) := by decide +kernel
theorem dX9_handed_3 : decode cX9_handed 3 = .ok (.invokevirtual 124, 3) := by decide +kernel
theorem dX9_handed_6 : decode cX9_handed 6 = .ok (.aload_n 0, 1) := by decide +kernel
theorem dX9_handed_7 : decode cX9_handed 7 = .ok (.getfield 10, 3) := by decide +kernel
theorem dX9_handed_10 : decode cX9_handed 10 = .ok (.iload_n 3, 1) := by decide +kernel
theorem dX9_handed_11 : decode cX9_handed 11 = .ok (.invokevirtual 226, 3) := by decide +kernel
theorem dX9_handed_14 : decode cX9_handed 14 = .ok (.invokestatic 154, 3) := by decide +kernel
theorem dX9_handed_17 : decode cX9_handed 17 = .ok (.aload_n 0, 1) := by decide +kernel
theorem dX9_handed_18 : decode cX9_handed 18 = .ok (.getfield 10, 3) := by decide +kernel
theorem dX9_handed_21 : decode cX9_handed 21 = .ok (.iload_n 1, 1) := by decide +kernel
theorem dX9_handed_22 : decode cX9_handed 22 = .ok (.iload_n 2, 1) := by decide +kernel
theorem dX9_handed_23 : decode cX9_handed 23 = .ok (.iload_n 3, 1) := by decide +kernel
theorem dX9_handed_24 : decode cX9_handed 24 = .ok (.invokevirtual 252, 3) := by decide +kernel
theorem dX9_handed_27 : decode cX9_handed 27 = .ok (.ireturn, 1) := by decide +kernel
set_option maxRecDepth 20000 in
theorem ggX9_bestTeacher_X7_hasHouse : GoodIn wsX9_bestTeacher wsX7_hasHouse := goodIn_r _ [6, 7, 99, 100, 101, 102, 103, 104, 105] (by decide +kernel) (by decide +kernel)
set_option maxRecDepth 20000 in
theorem gX9_bestTeacher_X7_hasHouse : GoodIn wsX9_bestTeacher (wsV RX9 226 RX7 yX7_hasHouse wsX7_hasHouse) := goodIn_app (goodIn_of _ (by decide +kernel)) ggX9_bestTeacher_X7_hasHouse
set_option maxRecDepth 20000 in
theorem ggX9_bestTeacher_X9_requirePlace : GoodIn wsX9_bestTeacher wsX9_requirePlace := goodIn_ca (goodIn_r _ [11, 12, 13] (by decide +kernel) (by decide +kernel)) (goodIn_sub (fun _ h => List.mem_cons_of_mem _ (List.mem_append_right _ h)) (by decide +kernel))
set_option maxRecDepth 20000 in
theorem gX9_bestTeacher_X9_requirePlace : GoodIn wsX9_bestTeacher (va_wsS RX9 154 yX9_requirePlace wsX9_requirePlace) := goodIn_app (goodIn_of _ (by decide +kernel)) ggX9_bestTeacher_X9_requirePlace
set_option maxRecDepth 20000 in
theorem ggX9_bestTeacher_X0_has : GoodIn wsX9_bestTeacher wsX0_has := goodIn_r _ [18, 19, 106, 107, 108, 109, 110] (by decide +kernel) (by decide +kernel)
set_option maxRecDepth 20000 in
theorem gX9_bestTeacher_X0_has : GoodIn wsX9_bestTeacher (wsV RX9 172 RX0 yX0_has wsX0_has) := goodIn_app (goodIn_of _ (by decide +kernel)) ggX9_bestTeacher_X0_has
set_option maxRecDepth 20000 in
theorem ggX9_bestTeacher_X0_codeOf : GoodIn wsX9_bestTeacher wsX0_codeOf := goodIn_r _ [23, 24, 25, 15, 16, 17, 18, 19, 106, 107, 108, 109, 110] (by decide +kernel) (by decide +kernel)
set_option maxRecDepth 20000 in
theorem gX9_bestTeacher_X0_codeOf : GoodIn wsX9_bestTeacher (wsV RX9 174 RX0 yX0_codeOf wsX0_codeOf) := goodIn_app (goodIn_of _ (by decide +kernel)) ggX9_bestTeacher_X0_codeOf
set_option maxRecDepth 20000 in
theorem ggX9_bestTeacher_X7_teacherNearestTo : GoodIn wsX9_bestTeacher wsX7_teacherNearestTo := goodIn_r _ [29, 7, 30, 31, 32, 5, 33, 34, 35, 36, 37, 38, 39, 40, 41, 42, 43, 44, 45, 46, 47, 48, 49, 50, 51, 52, 53, 54, 55, 56, 57, 58, 59, 60, 61, 62, 63, 64, 65, 66, 67, 68, 69, 70, 71, 72, 73, 74, 75, 76, 77, 78, 79, 80, 81, 82, 83, 84, 10, 85, 86, 87, 88, 89, 90, 91, 92, 99, 100, 101, 102, 103, 104, 105, 111, 112, 113, 114, 115, 116] (by decide +kernel) (by decide +kernel)
set_option maxRecDepth 20000 in
theorem gX9_bestTeacher_X7_teacherNearestTo : GoodIn wsX9_bestTeacher (wsV RX9 255 RX7 yX7_teacherNearestTo wsX7_teacherNearestTo) := goodIn_app (goodIn_of _ (by decide +kernel)) ggX9_bestTeacher_X7_teacherNearestTo
theorem dX9_bestTeacher_0 : decode cX9_bestTeacher 0 = .ok (.aload_n 0, 1) := by decide +kernel
theorem dX9_bestTeacher_1 : decode cX9_bestTeacher 1 = .ok (.getfield 10, 3) := by decide +kernel
theorem dX9_bestTeacher_4 : decode cX9_bestTeacher 4 = .ok (.iload_n 1, 1) := by decide +kernel
theorem dX9_bestTeacher_5 : decode cX9_bestTeacher 5 = .ok (.invokevirtual 226, 3) := by decide +kernel
theorem dX9_bestTeacher_8 : decode cX9_bestTeacher 8 = .ok (.invokestatic 154, 3) := by decide +kernel
theorem dX9_bestTeacher_11 : decode cX9_bestTeacher 11 = .ok (.aload_n 0, 1) := by decide +kernel
theorem dX9_bestTeacher_12 : decode cX9_bestTeacher 12 = .ok (.getfield 10, 3) := by decide +kernel
theorem dX9_bestTeacher_15 : decode cX9_bestTeacher 15 = .ok (.getfield 96, 3) := by decide +kernel
theorem dX9_bestTeacher_18 : decode cX9_bestTeacher 18 = .ok (.iload_n 2, 1) := by decide +kernel
theorem dX9_bestTeacher_19 : decode cX9_bestTeacher 19 = .ok (.invokevirtual 172, 3) := by decide +kernel
theorem dX9_bestTeacher_22 : decode cX9_bestTeacher 22 = .ok (.invokestatic 154, 3) := by decide +kernel
theorem dX9_bestTeacher_25 : decode cX9_bestTeacher 25 = .ok (.aload_n 0, 1) := by decide +kernel
theorem dX9_bestTeacher_26 : decode cX9_bestTeacher 26 = .ok (.getfield 10, 3) := by decide +kernel
theorem dX9_bestTeacher_29 : decode cX9_bestTeacher 29 = .ok (.aload_n 0, 1) := by decide +kernel
theorem dX9_bestTeacher_30 : decode cX9_bestTeacher 30 = .ok (.getfield 10, 3) := by decide +kernel
theorem dX9_bestTeacher_33 : decode cX9_bestTeacher 33 = .ok (.getfield 96, 3) := by decide +kernel
theorem dX9_bestTeacher_36 : decode cX9_bestTeacher 36 = .ok (.iload_n 2, 1) := by decide +kernel
theorem dX9_bestTeacher_37 : decode cX9_bestTeacher 37 = .ok (.invokevirtual 174, 3) := by decide +kernel
theorem dX9_bestTeacher_40 : decode cX9_bestTeacher 40 = .ok (.iload_n 1, 1) := by decide +kernel
theorem dX9_bestTeacher_41 : decode cX9_bestTeacher 41 = .ok (.invokevirtual 255, 3) := by decide +kernel
theorem dX9_bestTeacher_44 : decode cX9_bestTeacher 44 = .ok (.ireturn, 1) := by decide +kernel
set_option maxRecDepth 20000 in
theorem ggX9_leastTolerance_X0_has : GoodIn wsX9_leastTolerance wsX0_has := goodIn_r _ [6, 7, 90, 91, 92, 93, 94] (by decide +kernel) (by decide +kernel)
set_option maxRecDepth 20000 in
theorem gX9_leastTolerance_X0_has : GoodIn wsX9_leastTolerance (wsV RX9 172 RX0 yX0_has wsX0_has) := goodIn_app (goodIn_of _ (by decide +kernel)) ggX9_leastTolerance_X0_has
set_option maxRecDepth 20000 in
theorem ggX9_leastTolerance_X9_requirePlace : GoodIn wsX9_leastTolerance wsX9_requirePlace := goodIn_ca (goodIn_r _ [11, 12, 13] (by decide +kernel) (by decide +kernel)) (goodIn_sub (fun _ h => List.mem_cons_of_mem _ (List.mem_append_right _ h)) (by decide +kernel))
set_option maxRecDepth 20000 in
theorem gX9_leastTolerance_X9_requirePlace : GoodIn wsX9_leastTolerance (va_wsS RX9 154 yX9_requirePlace wsX9_requirePlace) := goodIn_app (goodIn_of _ (by decide +kernel)) ggX9_leastTolerance_X9_requirePlace
set_option maxRecDepth 20000 in
theorem ggX9_leastTolerance_X0_codeOf : GoodIn wsX9_leastTolerance wsX0_codeOf := goodIn_r _ [17, 18, 19, 3, 4, 5, 6, 7, 90, 91, 92, 93, 94] (by decide +kernel) (by decide +kernel)
set_option maxRecDepth 20000 in
theorem gX9_leastTolerance_X0_codeOf : GoodIn wsX9_leastTolerance (wsV RX9 174 RX0 yX0_codeOf wsX0_codeOf) := goodIn_app (goodIn_of _ (by decide +kernel)) ggX9_leastTolerance_X0_codeOf
set_option maxRecDepth 20000 in
theorem ggX9_leastTolerance_X7_farthestFrom : GoodIn wsX9_leastTolerance wsX7_farthestFrom := goodIn_r _ [24, 25, 26, 27, 28, 29, 30, 31, 32, 33, 34, 35, 36, 37, 38, 39, 40, 41, 42, 43, 44, 45, 46, 47, 48, 49, 50, 51, 52, 53, 54, 55, 56, 57, 58, 59, 60, 61, 62, 10, 63, 64, 65, 66, 67, 68, 69, 70, 83, 84, 85, 86, 87, 88, 89, 95, 96, 97, 98, 99, 100] (by decide +kernel) (by decide +kernel)
set_option maxRecDepth 20000 in
theorem gX9_leastTolerance_X7_farthestFrom : GoodIn wsX9_leastTolerance (wsV RX9 258 RX7 yX7_farthestFrom wsX7_farthestFrom) := goodIn_app (goodIn_of _ (by decide +kernel)) ggX9_leastTolerance_X7_farthestFrom
set_option maxRecDepth 20000 in
theorem ggX9_leastTolerance_X9_isTolerance : GoodIn wsX9_leastTolerance wsX9_isTolerance := goodIn_r _ [73, 74, 75, 10, 76] (by decide +kernel) (by decide +kernel)
set_option maxRecDepth 20000 in
theorem gX9_leastTolerance_X9_isTolerance : GoodIn wsX9_leastTolerance (va_wsS RX9 229 yX9_isTolerance wsX9_isTolerance) := goodIn_app (goodIn_of _ (by decide +kernel)) ggX9_leastTolerance_X9_isTolerance
theorem dX9_leastTolerance_0 : decode cX9_leastTolerance 0 = .ok (.aload_n 0, 1) := by decide +kernel
theorem dX9_leastTolerance_1 : decode cX9_leastTolerance 1 = .ok (.getfield 10, 3) := by decide +kernel
theorem dX9_leastTolerance_4 : decode cX9_leastTolerance 4 = .ok (.getfield 96, 3) := by decide +kernel
theorem dX9_leastTolerance_7 : decode cX9_leastTolerance 7 = .ok (.iload_n 1, 1) := by decide +kernel
theorem dX9_leastTolerance_8 : decode cX9_leastTolerance 8 = .ok (.invokevirtual 172, 3) := by decide +kernel
theorem dX9_leastTolerance_11 : decode cX9_leastTolerance 11 = .ok (.invokestatic 154, 3) := by decide +kernel
theorem dX9_leastTolerance_14 : decode cX9_leastTolerance 14 = .ok (.aload_n 0, 1) := by decide +kernel
theorem dX9_leastTolerance_15 : decode cX9_leastTolerance 15 = .ok (.getfield 10, 3) := by decide +kernel
theorem dX9_leastTolerance_18 : decode cX9_leastTolerance 18 = .ok (.aload_n 0, 1) := by decide +kernel
theorem dX9_leastTolerance_19 : decode cX9_leastTolerance 19 = .ok (.getfield 10, 3) := by decide +kernel
theorem dX9_leastTolerance_22 : decode cX9_leastTolerance 22 = .ok (.getfield 96, 3) := by decide +kernel
theorem dX9_leastTolerance_25 : decode cX9_leastTolerance 25 = .ok (.iload_n 1, 1) := by decide +kernel
theorem dX9_leastTolerance_26 : decode cX9_leastTolerance 26 = .ok (.invokevirtual 174, 3) := by decide +kernel
theorem dX9_leastTolerance_29 : decode cX9_leastTolerance 29 = .ok (.invokevirtual 258, 3) := by decide +kernel
theorem dX9_leastTolerance_32 : decode cX9_leastTolerance 32 = .ok (.istore_n 2, 1) := by decide +kernel
theorem dX9_leastTolerance_33 : decode cX9_leastTolerance 33 = .ok (.iload_n 2, 1) := by decide +kernel
theorem dX9_leastTolerance_34 : decode cX9_leastTolerance 34 = .ok (.invokestatic 229, 3) := by decide +kernel
theorem dX9_leastTolerance_37 : decode cX9_leastTolerance 37 = .ok (.ifCond .eq 7, 3) := by decide +kernel
theorem dX9_leastTolerance_40 : decode cX9_leastTolerance 40 = .ok (.iload_n 2, 1) := by decide +kernel
theorem dX9_leastTolerance_41 : decode cX9_leastTolerance 41 = .ok (.goto 5, 3) := by decide +kernel
theorem dX9_leastTolerance_44 : decode cX9_leastTolerance 44 = .ok (.bipush (-9), 2) := by decide +kernel
theorem dX9_leastTolerance_46 : decode cX9_leastTolerance 46 = .ok (.ireturn, 1) := by decide +kernel
set_option maxRecDepth 20000 in
theorem ggX9_runScript_X9_isWithin : GoodIn wsX9_runScript wsX9_isWithin := goodIn_r _ [6] (by decide +kernel) (by decide +kernel)
set_option maxRecDepth 20000 in
theorem gX9_runScript_X9_isWithin : GoodIn wsX9_runScript (va_wsS RX9 47 yX9_isWithin wsX9_isWithin) := goodIn_app (goodIn_of _ (by decide +kernel)) ggX9_runScript_X9_isWithin
set_option maxRecDepth 20000 in
theorem ggX9_runScript_X9_requireArgument : GoodIn wsX9_runScript wsX9_requireArgument := goodIn_ca (goodIn_r _ [9, 10, 11] (by decide +kernel) (by decide +kernel)) (goodIn_sub (fun _ h => List.mem_cons_of_mem _ (List.mem_append_right _ h)) (by decide +kernel))
set_option maxRecDepth 20000 in
theorem gX9_runScript_X9_requireArgument : GoodIn wsX9_runScript (va_wsS RX9 51 yX9_requireArgument wsX9_requireArgument) := goodIn_app (goodIn_of _ (by decide +kernel)) ggX9_runScript_X9_requireArgument
set_option maxRecDepth 20000 in
theorem ggX9_runScript_X9_powerOfTen : GoodIn wsX9_runScript wsX9_powerOfTen := goodIn_r _ [14, 15] (by decide +kernel) (by decide +kernel)
set_option maxRecDepth 20000 in
theorem gX9_runScript_X9_powerOfTen : GoodIn wsX9_runScript (va_wsS RX9 261 yX9_powerOfTen wsX9_powerOfTen) := goodIn_app (goodIn_of _ (by decide +kernel)) ggX9_runScript_X9_powerOfTen
set_option maxRecDepth 20000 in
theorem ggX9_runScript_X7_copyFrom : GoodIn wsX9_runScript wsX7_copyFrom := goodIn_r _ [20, 21, 22, 23, 24, 25, 26, 27, 28, 29, 30, 31, 32, 33, 34, 35, 36, 37, 38, 39, 40, 41, 42, 43, 44, 45, 46, 47, 48, 49, 50, 51, 52, 53, 54, 231, 232, 233, 234, 235, 236, 237, 238, 239, 240, 241, 242, 243, 244, 245, 246, 247, 248] (by decide +kernel) (by decide +kernel)
set_option maxRecDepth 20000 in
theorem gX9_runScript_X7_copyFrom : GoodIn wsX9_runScript (wsV RX9 74 RX7 yX7_copyFrom wsX7_copyFrom) := goodIn_app (goodIn_of _ (by decide +kernel)) ggX9_runScript_X7_copyFrom
set_option maxRecDepth 20000 in
theorem ggX9_runScript_X5_groupAt : GoodIn wsX9_runScript wsX5_groupAt := goodIn_r _ [58, 59] (by decide +kernel) (by decide +kernel)
set_option maxRecDepth 20000 in
theorem gX9_runScript_X5_groupAt : GoodIn wsX9_runScript (va_wsS RX9 265 yX5_groupAt wsX5_groupAt) := goodIn_app (goodIn_of _ (by decide +kernel)) ggX9_runScript_X5_groupAt
set_option maxRecDepth 20000 in
theorem ggX9_runScript_X5_succeeds : GoodIn wsX9_runScript wsX5_succeeds := goodIn_r _ [62, 63, 64, 57, 65, 66, 67, 68, 19, 69, 28, 70, 71, 72, 73, 21, 74, 75, 76, 77, 78, 79, 80, 81, 23, 82, 83, 84, 85, 35, 86, 43, 87, 88, 89, 90, 31, 29, 91, 92, 93, 94, 95, 96, 97, 98, 99, 100, 101, 102, 103, 104, 105, 106, 107, 37, 108, 109, 110, 111, 112, 113, 114, 115, 116, 117, 118, 39, 40, 41, 42, 119, 120, 121, 122, 123, 124, 125, 126, 127, 128, 129, 130, 131, 22, 30, 132, 133, 134, 135, 136, 137, 138, 47, 139, 53, 140, 141, 142, 143, 49, 144, 51, 52, 145, 146, 147, 148, 149, 150, 151, 152, 153, 154, 155, 156, 157, 158, 159, 54, 160, 161, 162, 163, 164, 165, 166, 167, 168, 169, 170, 5, 171, 3, 4, 6, 172, 173, 174, 175, 176, 177, 178, 179, 180, 181, 182, 183, 184, 185, 186, 187, 188, 189, 190, 191, 192, 193, 194, 195, 196, 197, 198, 199, 200, 201, 202, 203, 204, 205, 206, 207, 208, 209, 210, 211, 212, 213, 214, 215, 216, 217, 218, 219, 220, 221, 222, 223, 224, 231, 232, 233, 234, 235, 236, 237, 238, 239, 240, 241, 242, 243, 244, 245, 246, 247, 248] (by decide +kernel) (by decide +kernel)
set_option maxRecDepth 20000 in
theorem gX9_runScript_X5_succeeds : GoodIn wsX9_runScript (va_wsS RX9 271 yX5_succeeds wsX5_succeeds) := goodIn_app (goodIn_of _ (by decide +kernel)) ggX9_runScript_X5_succeeds
theorem dX9_runScript_0 : decode cX9_runScript 0 = .ok (.iload_n 1, 1) := by decide +kernel
theorem dX9_runScript_1 : decode cX9_runScript 1 = .ok (.iconst 1, 1) := by decide +kernel
theorem dX9_runScript_2 : decode cX9_runScript 2 = .ok (.iconst 3, 1) := by decide +kernel
theorem dX9_runScript_3 : decode cX9_runScript 3 = .ok (.invokestatic 47, 3) := by decide +kernel
theorem dX9_runScript_6 : decode cX9_runScript 6 = .ok (.invokestatic 51, 3) := by decide +kernel
theorem dX9_runScript_9 : decode cX9_runScript 9 = .ok (.lload_n 2, 1) := by decide +kernel
theorem dX9_runScript_10 : decode cX9_runScript 10 = .ok (.lconst 0, 1) := by decide +kernel
theorem dX9_runScript_11 : decode cX9_runScript 11 = .ok (.lcmp, 1) := by decide +kernel
theorem dX9_runScript_12 : decode cX9_runScript 12 = .ok (.ifCond .lt 18, 3) := by decide +kernel
theorem dX9_runScript_15 : decode cX9_runScript 15 = .ok (.lload_n 2, 1) := by decide +kernel
theorem dX9_runScript_16 : decode cX9_runScript 16 = .ok (.iconst 5, 1) := by decide +kernel
theorem dX9_runScript_17 : decode cX9_runScript 17 = .ok (.iload_n 1, 1) := by decide +kernel
theorem dX9_runScript_18 : decode cX9_runScript 18 = .ok (.imul, 1) := by decide +kernel
theorem dX9_runScript_19 : decode cX9_runScript 19 = .ok (.invokestatic 261, 3) := by decide +kernel
theorem dX9_runScript_22 : decode cX9_runScript 22 = .ok (.lcmp, 1) := by decide +kernel
theorem dX9_runScript_23 : decode cX9_runScript 23 = .ok (.ifCond .ge 7, 3) := by decide +kernel
theorem dX9_runScript_26 : decode cX9_runScript 26 = .ok (.iconst 1, 1) := by decide +kernel
theorem dX9_runScript_27 : decode cX9_runScript 27 = .ok (.goto 4, 3) := by decide +kernel
theorem dX9_runScript_30 : decode cX9_runScript 30 = .ok (.iconst 0, 1) := by decide +kernel
theorem dX9_runScript_31 : decode cX9_runScript 31 = .ok (.invokestatic 51, 3) := by decide +kernel
theorem dX9_runScript_34 : decode cX9_runScript 34 = .ok (.aload_n 0, 1) := by decide +kernel
theorem dX9_runScript_35 : decode cX9_runScript 35 = .ok (.getfield 16, 3) := by decide +kernel
theorem dX9_runScript_38 : decode cX9_runScript 38 = .ok (.aload_n 0, 1) := by decide +kernel
theorem dX9_runScript_39 : decode cX9_runScript 39 = .ok (.getfield 10, 3) := by decide +kernel
theorem dX9_runScript_42 : decode cX9_runScript 42 = .ok (.invokevirtual 74, 3) := by decide +kernel
theorem dX9_runScript_45 : decode cX9_runScript 45 = .ok (.iconst 0, 1) := by decide +kernel
theorem dX9_runScript_46 : decode cX9_runScript 46 = .ok (.istore 4, 2) := by decide +kernel
theorem dX9_runScript_48 : decode cX9_runScript 48 = .ok (.iload 4, 2) := by decide +kernel
theorem dX9_runScript_50 : decode cX9_runScript 50 = .ok (.iload_n 1, 1) := by decide +kernel
theorem dX9_runScript_51 : decode cX9_runScript 51 = .ok (.if_icmp .ge 32, 3) := by decide +kernel
theorem dX9_runScript_54 : decode cX9_runScript 54 = .ok (.aload_n 0, 1) := by decide +kernel
theorem dX9_runScript_55 : decode cX9_runScript 55 = .ok (.getfield 16, 3) := by decide +kernel
theorem dX9_runScript_58 : decode cX9_runScript 58 = .ok (.lload_n 2, 1) := by decide +kernel
theorem dX9_runScript_59 : decode cX9_runScript 59 = .ok (.iload_n 1, 1) := by decide +kernel
theorem dX9_runScript_60 : decode cX9_runScript 60 = .ok (.iconst 1, 1) := by decide +kernel
theorem dX9_runScript_61 : decode cX9_runScript 61 = .ok (.isub, 1) := by decide +kernel
theorem dX9_runScript_62 : decode cX9_runScript 62 = .ok (.iload 4, 2) := by decide +kernel
theorem dX9_runScript_64 : decode cX9_runScript 64 = .ok (.isub, 1) := by decide +kernel
theorem dX9_runScript_65 : decode cX9_runScript 65 = .ok (.invokestatic 265, 3) := by decide +kernel
theorem dX9_runScript_68 : decode cX9_runScript 68 = .ok (.invokestatic 271, 3) := by decide +kernel
theorem dX9_runScript_71 : decode cX9_runScript 71 = .ok (.ifCond .ne 6, 3) := by decide +kernel
theorem dX9_runScript_74 : decode cX9_runScript 74 = .ok (.iload 4, 2) := by decide +kernel
theorem dX9_runScript_76 : decode cX9_runScript 76 = .ok (.ireturn, 1) := by decide +kernel
theorem dX9_runScript_77 : decode cX9_runScript 77 = .ok (.iinc 4 1, 3) := by decide +kernel
theorem dX9_runScript_80 : decode cX9_runScript 80 = .ok (.goto (-32), 3) := by decide +kernel
theorem dX9_runScript_83 : decode cX9_runScript 83 = .ok (.bipush (-9), 2) := by decide +kernel
theorem dX9_runScript_85 : decode cX9_runScript 85 = .ok (.ireturn, 1) := by decide +kernel
set_option maxRecDepth 20000 in
theorem ggX9_simulate_X9_requireKey : GoodIn wsX9_simulate wsX9_requireKey := goodIn_ca (goodIn_r _ [6, 1, 7, 8, 9, 10, 11, 12, 13, 14, 5, 15, 16, 17, 77, 78, 79, 80, 81, 82, 83, 84, 85, 86, 87, 88, 89] (by decide +kernel) (by decide +kernel)) (goodIn_sub (fun _ h => List.mem_cons_of_mem _ (List.mem_append_left _ (List.mem_append_right _ h))) (by decide +kernel))
set_option maxRecDepth 20000 in
theorem gX9_simulate_X9_requireKey : GoodIn wsX9_simulate (wsV RX9 124 RX9 yX9_requireKey wsX9_requireKey) := goodIn_app (goodIn_of _ (by decide +kernel)) ggX9_simulate_X9_requireKey
set_option maxRecDepth 20000 in
theorem ggX9_simulate_X9_isWithin : GoodIn wsX9_simulate wsX9_isWithin := goodIn_r _ [20] (by decide +kernel) (by decide +kernel)
set_option maxRecDepth 20000 in
theorem gX9_simulate_X9_isWithin : GoodIn wsX9_simulate (va_wsS RX9 47 yX9_isWithin wsX9_isWithin) := goodIn_app (goodIn_of _ (by decide +kernel)) ggX9_simulate_X9_isWithin
set_option maxRecDepth 20000 in
theorem ggX9_simulate_X9_requireArgument : GoodIn wsX9_simulate wsX9_requireArgument := goodIn_ca (goodIn_r _ [23, 24, 25] (by decide +kernel) (by decide +kernel)) (goodIn_sub (fun _ h => List.mem_cons_of_mem _ (List.mem_append_right _ h)) (by decide +kernel))
set_option maxRecDepth 20000 in
theorem gX9_simulate_X9_requireArgument : GoodIn wsX9_simulate (va_wsS RX9 51 yX9_requireArgument wsX9_requireArgument) := goodIn_app (goodIn_of _ (by decide +kernel)) ggX9_simulate_X9_requireArgument
set_option maxRecDepth 20000 in
theorem ggX9_simulate_X7_codeOf : GoodIn wsX9_simulate wsX7_codeOf := goodIn_r _ [29, 30, 31, 32, 33, 10, 34, 35, 36, 8, 9, 11, 12, 37, 38, 39, 40, 41, 42, 43, 44, 45, 46, 47, 83, 84, 85, 86, 87, 88, 89, 90, 91, 92, 93, 94, 95] (by decide +kernel) (by decide +kernel)
set_option maxRecDepth 20000 in
theorem gX9_simulate_X7_codeOf : GoodIn wsX9_simulate (wsV RX9 275 RX7 yX7_codeOf wsX7_codeOf) := goodIn_app (goodIn_of _ (by decide +kernel)) ggX9_simulate_X7_codeOf
set_option maxRecDepth 20000 in
theorem ggX9_simulate_X7_simulateWay : GoodIn wsX9_simulate wsX7_simulateWay := goodIn_r _ [51, 12, 52, 53, 54, 55, 56, 57, 58, 59, 60, 61, 62, 63, 64, 65, 66, 67, 68, 5, 69, 70, 71, 72, 73, 74, 75, 76, 83, 84, 85, 86, 87, 88, 89] (by decide +kernel) (by decide +kernel)
set_option maxRecDepth 20000 in
theorem gX9_simulate_X7_simulateWay : GoodIn wsX9_simulate (wsV RX9 277 RX7 yX7_simulateWay wsX7_simulateWay) := goodIn_app (goodIn_of _ (by decide +kernel)) ggX9_simulate_X7_simulateWay
theorem dX9_simulate_0 : decode cX9_simulate 0 = .ok (.aload_n 0, 1) := by decide +kernel
theorem dX9_simulate_1 : decode cX9_simulate 1 = .ok (.iload_n 1, 1) := by decide +kernel
theorem dX9_simulate_2 : decode cX9_simulate 2 = .ok (.iload_n 2, 1) := by decide +kernel
theorem dX9_simulate_3 : decode cX9_simulate 3 = .ok (.invokevirtual 124, 3) := by decide +kernel
theorem dX9_simulate_6 : decode cX9_simulate 6 = .ok (.iload 5, 2) := by decide +kernel
theorem dX9_simulate_8 : decode cX9_simulate 8 = .ok (.iconst 1, 1) := by decide +kernel
theorem dX9_simulate_9 : decode cX9_simulate 9 = .ok (.bipush 60, 2) := by decide +kernel
theorem dX9_simulate_11 : decode cX9_simulate 11 = .ok (.invokestatic 47, 3) := by decide +kernel
theorem dX9_simulate_14 : decode cX9_simulate 14 = .ok (.invokestatic 51, 3) := by decide +kernel
theorem dX9_simulate_17 : decode cX9_simulate 17 = .ok (.aload_n 0, 1) := by decide +kernel
theorem dX9_simulate_18 : decode cX9_simulate 18 = .ok (.getfield 10, 3) := by decide +kernel
theorem dX9_simulate_21 : decode cX9_simulate 21 = .ok (.iload_n 1, 1) := by decide +kernel
theorem dX9_simulate_22 : decode cX9_simulate 22 = .ok (.iload_n 2, 1) := by decide +kernel
theorem dX9_simulate_23 : decode cX9_simulate 23 = .ok (.invokevirtual 275, 3) := by decide +kernel
theorem dX9_simulate_26 : decode cX9_simulate 26 = .ok (.istore 6, 2) := by decide +kernel
theorem dX9_simulate_28 : decode cX9_simulate 28 = .ok (.iload 6, 2) := by decide +kernel
theorem dX9_simulate_30 : decode cX9_simulate 30 = .ok (.bipush (-9), 2) := by decide +kernel
theorem dX9_simulate_32 : decode cX9_simulate 32 = .ok (.if_icmp .ne 6, 3) := by decide +kernel
theorem dX9_simulate_35 : decode cX9_simulate 35 = .ok (.bipush (-9), 2) := by decide +kernel
theorem dX9_simulate_37 : decode cX9_simulate 37 = .ok (.ireturn, 1) := by decide +kernel
theorem dX9_simulate_38 : decode cX9_simulate 38 = .ok (.aload_n 0, 1) := by decide +kernel
theorem dX9_simulate_39 : decode cX9_simulate 39 = .ok (.getfield 10, 3) := by decide +kernel
theorem dX9_simulate_42 : decode cX9_simulate 42 = .ok (.iload_n 1, 1) := by decide +kernel
theorem dX9_simulate_43 : decode cX9_simulate 43 = .ok (.iload 6, 2) := by decide +kernel
theorem dX9_simulate_45 : decode cX9_simulate 45 = .ok (.lload_n 3, 1) := by decide +kernel
theorem dX9_simulate_46 : decode cX9_simulate 46 = .ok (.iload 5, 2) := by decide +kernel
theorem dX9_simulate_48 : decode cX9_simulate 48 = .ok (.invokevirtual 277, 3) := by decide +kernel
theorem dX9_simulate_51 : decode cX9_simulate 51 = .ok (.ireturn, 1) := by decide +kernel
set_option maxRecDepth 20000 in
theorem ggX9_save_X6_has : GoodIn wsX9_save wsX6_has := goodIn_r _ [7] (by decide +kernel) (by decide +kernel)
set_option maxRecDepth 20000 in
theorem gX9_save_X6_has : GoodIn wsX9_save (wsV RX9 281 RX6 yX6_has wsX6_has) := goodIn_app (goodIn_of _ (by decide +kernel)) ggX9_save_X6_has
set_option maxRecDepth 20000 in
theorem ggX9_save_X9_requirePlace : GoodIn wsX9_save wsX9_requirePlace := goodIn_ca (goodIn_r _ [11, 12, 13] (by decide +kernel) (by decide +kernel)) (goodIn_sub (fun _ h => List.mem_cons_of_mem _ (List.mem_append_right _ h)) (by decide +kernel))
set_option maxRecDepth 20000 in
theorem gX9_save_X9_requirePlace : GoodIn wsX9_save (va_wsS RX9 154 yX9_requirePlace wsX9_requirePlace) := goodIn_app (goodIn_of _ (by decide +kernel)) ggX9_save_X9_requirePlace
set_option maxRecDepth 20000 in
theorem ggX9_save_X6_keep : GoodIn wsX9_save wsX6_keep := goodIn_r _ [17, 18, 19, 20, 21, 6, 22, 23, 24, 4, 5, 7, 25, 26, 27, 28, 29, 30, 31, 32, 33, 34, 35, 36, 37, 38, 39, 40, 41, 42, 43, 44, 45, 46, 47, 48, 49, 50, 51, 52, 53, 54, 55, 56, 57, 58, 59, 60, 61, 62, 63, 81, 82, 74, 75, 76, 77, 78, 79, 80, 83, 84, 85, 86, 87, 88, 89, 90, 91, 92, 93] (by decide +kernel) (by decide +kernel)
set_option maxRecDepth 20000 in
theorem gX9_save_X6_keep : GoodIn wsX9_save (wsV RX9 282 RX6 yX6_keep wsX6_keep) := goodIn_app (goodIn_of _ (by decide +kernel)) ggX9_save_X6_keep
set_option maxRecDepth 20000 in
theorem ggX9_save_X4_count : GoodIn wsX9_save wsX4_count := goodIn_r _ [67, 52, 83, 84, 85, 86, 87, 88] (by decide +kernel) (by decide +kernel)
set_option maxRecDepth 20000 in
theorem gX9_save_X4_count : GoodIn wsX9_save (wsV RX9 88 RX4 yX4_count wsX4_count) := goodIn_app (goodIn_of _ (by decide +kernel)) ggX9_save_X4_count
theorem dX9_save_0 : decode cX9_save 0 = .ok (.aload_n 0, 1) := by decide +kernel
theorem dX9_save_1 : decode cX9_save 1 = .ok (.getfield 29, 3) := by decide +kernel
theorem dX9_save_4 : decode cX9_save 4 = .ok (.iload_n 1, 1) := by decide +kernel
theorem dX9_save_5 : decode cX9_save 5 = .ok (.invokevirtual 281, 3) := by decide +kernel
theorem dX9_save_8 : decode cX9_save 8 = .ok (.invokestatic 154, 3) := by decide +kernel
theorem dX9_save_11 : decode cX9_save 11 = .ok (.aload_n 0, 1) := by decide +kernel
theorem dX9_save_12 : decode cX9_save 12 = .ok (.getfield 29, 3) := by decide +kernel
theorem dX9_save_15 : decode cX9_save 15 = .ok (.iload_n 1, 1) := by decide +kernel
theorem dX9_save_16 : decode cX9_save 16 = .ok (.aload_n 0, 1) := by decide +kernel
theorem dX9_save_17 : decode cX9_save 17 = .ok (.getfield 10, 3) := by decide +kernel
theorem dX9_save_20 : decode cX9_save 20 = .ok (.invokevirtual 282, 3) := by decide +kernel
theorem dX9_save_23 : decode cX9_save 23 = .ok (.aload_n 0, 1) := by decide +kernel
theorem dX9_save_24 : decode cX9_save 24 = .ok (.getfield 10, 3) := by decide +kernel
theorem dX9_save_27 : decode cX9_save 27 = .ok (.getfield 84, 3) := by decide +kernel
theorem dX9_save_30 : decode cX9_save 30 = .ok (.invokevirtual 88, 3) := by decide +kernel
theorem dX9_save_33 : decode cX9_save 33 = .ok (.ireturn, 1) := by decide +kernel
set_option maxRecDepth 20000 in
theorem ggX9_restore_X6_has : GoodIn wsX9_restore wsX6_has := goodIn_r _ [8] (by decide +kernel) (by decide +kernel)
set_option maxRecDepth 20000 in
theorem gX9_restore_X6_has : GoodIn wsX9_restore (wsV RX9 281 RX6 yX6_has wsX6_has) := goodIn_app (goodIn_of _ (by decide +kernel)) ggX9_restore_X6_has
set_option maxRecDepth 20000 in
theorem ggX9_restore_X9_requirePlace : GoodIn wsX9_restore wsX9_requirePlace := goodIn_ca (goodIn_r _ [12, 13, 14] (by decide +kernel) (by decide +kernel)) (goodIn_sub (fun _ h => List.mem_cons_of_mem _ (List.mem_append_left _ (List.mem_append_right _ h))) (by decide +kernel))
set_option maxRecDepth 20000 in
theorem gX9_restore_X9_requirePlace : GoodIn wsX9_restore (va_wsS RX9 154 yX9_requirePlace wsX9_requirePlace) := goodIn_app (goodIn_of _ (by decide +kernel)) ggX9_restore_X9_requirePlace
set_option maxRecDepth 20000 in
theorem ggX9_restore_X6_isFilled : GoodIn wsX9_restore wsX6_isFilled := goodIn_r _ [18, 19, 20, 5, 6, 7, 8, 97, 98] (by decide +kernel) (by decide +kernel)
set_option maxRecDepth 20000 in
theorem gX9_restore_X6_isFilled : GoodIn wsX9_restore (wsV RX9 286 RX6 yX6_isFilled wsX6_isFilled) := goodIn_app (goodIn_of _ (by decide +kernel)) ggX9_restore_X6_isFilled
set_option maxRecDepth 20000 in
theorem ggX9_restore_X9_requireState : GoodIn wsX9_restore wsX9_requireState := goodIn_ca (goodIn_r _ [23, 24, 25] (by decide +kernel) (by decide +kernel)) (goodIn_sub (fun _ h => List.mem_cons_of_mem _ (List.mem_append_right _ h)) (by decide +kernel))
set_option maxRecDepth 20000 in
theorem gX9_restore_X9_requireState : GoodIn wsX9_restore (va_wsS RX9 59 yX9_requireState wsX9_requireState) := goodIn_app (goodIn_of _ (by decide +kernel)) ggX9_restore_X9_requireState
set_option maxRecDepth 20000 in
theorem ggX9_restore_X6_giveBack : GoodIn wsX9_restore wsX6_giveBack := goodIn_r _ [29, 30, 31, 32, 7, 33, 34, 20, 5, 6, 8, 35, 36, 37, 38, 39, 40, 41, 42, 43, 44, 45, 46, 47, 48, 49, 50, 51, 52, 53, 54, 55, 56, 57, 58, 59, 60, 61, 62, 63, 64, 65, 66, 67, 68, 69, 70, 71, 72, 73, 97, 98, 90, 91, 92, 93, 94, 95, 96, 99, 100, 101, 102, 103, 104, 105, 106, 107, 108, 109] (by decide +kernel) (by decide +kernel)
set_option maxRecDepth 20000 in
theorem gX9_restore_X6_giveBack : GoodIn wsX9_restore (wsV RX9 289 RX6 yX6_giveBack wsX6_giveBack) := goodIn_app (goodIn_of _ (by decide +kernel)) ggX9_restore_X6_giveBack
set_option maxRecDepth 20000 in
theorem ggX9_restore_X1_forgetAll : GoodIn wsX9_restore wsX1_forgetAll := goodIn_r _ [78, 79, 110, 111, 112] (by decide +kernel) (by decide +kernel)
set_option maxRecDepth 20000 in
theorem gX9_restore_X1_forgetAll : GoodIn wsX9_restore (wsV RX9 78 RX1 yX1_forgetAll wsX1_forgetAll) := goodIn_app (goodIn_of _ (by decide +kernel)) ggX9_restore_X1_forgetAll
set_option maxRecDepth 20000 in
theorem ggX9_restore_X4_count : GoodIn wsX9_restore wsX4_count := goodIn_r _ [83, 62, 99, 100, 101, 102, 103, 104] (by decide +kernel) (by decide +kernel)
set_option maxRecDepth 20000 in
theorem gX9_restore_X4_count : GoodIn wsX9_restore (wsV RX9 88 RX4 yX4_count wsX4_count) := goodIn_app (goodIn_of _ (by decide +kernel)) ggX9_restore_X4_count
theorem dX9_restore_0 : decode cX9_restore 0 = .ok (.aload_n 0, 1) := by decide +kernel
theorem dX9_restore_1 : decode cX9_restore 1 = .ok (.getfield 29, 3) := by decide +kernel
theorem dX9_restore_4 : decode cX9_restore 4 = .ok (.iload_n 1, 1) := by decide +kernel
theorem dX9_restore_5 : decode cX9_restore 5 = .ok (.invokevirtual 281, 3) := by decide +kernel
theorem dX9_restore_8 : decode cX9_restore 8 = .ok (.invokestatic 154, 3) := by decide +kernel
theorem dX9_restore_11 : decode cX9_restore 11 = .ok (.aload_n 0, 1) := by decide +kernel
theorem dX9_restore_12 : decode cX9_restore 12 = .ok (.getfield 29, 3) := by decide +kernel
theorem dX9_restore_15 : decode cX9_restore 15 = .ok (.iload_n 1, 1) := by decide +kernel
theorem dX9_restore_16 : decode cX9_restore 16 = .ok (.invokevirtual 286, 3) := by decide +kernel
theorem dX9_restore_19 : decode cX9_restore 19 = .ok (.invokestatic 59, 3) := by decide +kernel
theorem dX9_restore_22 : decode cX9_restore 22 = .ok (.aload_n 0, 1) := by decide +kernel
theorem dX9_restore_23 : decode cX9_restore 23 = .ok (.getfield 29, 3) := by decide +kernel
theorem dX9_restore_26 : decode cX9_restore 26 = .ok (.iload_n 1, 1) := by decide +kernel
theorem dX9_restore_27 : decode cX9_restore 27 = .ok (.aload_n 0, 1) := by decide +kernel
theorem dX9_restore_28 : decode cX9_restore 28 = .ok (.getfield 10, 3) := by decide +kernel
theorem dX9_restore_31 : decode cX9_restore 31 = .ok (.invokevirtual 289, 3) := by decide +kernel
theorem dX9_restore_34 : decode cX9_restore 34 = .ok (.aload_n 0, 1) := by decide +kernel
theorem dX9_restore_35 : decode cX9_restore 35 = .ok (.getfield 22, 3) := by decide +kernel
theorem dX9_restore_38 : decode cX9_restore 38 = .ok (.invokevirtual 78, 3) := by decide +kernel
theorem dX9_restore_41 : decode cX9_restore 41 = .ok (.aload_n 0, 1) := by decide +kernel
theorem dX9_restore_42 : decode cX9_restore 42 = .ok (.getfield 10, 3) := by decide +kernel
theorem dX9_restore_45 : decode cX9_restore 45 = .ok (.getfield 84, 3) := by decide +kernel
theorem dX9_restore_48 : decode cX9_restore 48 = .ok (.invokevirtual 88, 3) := by decide +kernel
theorem dX9_restore_51 : decode cX9_restore 51 = .ok (.ireturn, 1) := by decide +kernel
set_option maxRecDepth 20000 in
theorem ggX9_requireKey_X7_hasKey : GoodIn wsX9_requireKey wsX7_hasKey := goodIn_r _ [6, 7, 20, 21, 22, 23, 24, 25, 26] (by decide +kernel) (by decide +kernel)
set_option maxRecDepth 20000 in
theorem gX9_requireKey_X7_hasKey : GoodIn wsX9_requireKey (wsV RX9 292 RX7 yX7_hasKey wsX7_hasKey) := goodIn_app (goodIn_of _ (by decide +kernel)) ggX9_requireKey_X7_hasKey
set_option maxRecDepth 20000 in
theorem ggX9_requireKey_X9_requirePlace : GoodIn wsX9_requireKey wsX9_requirePlace := goodIn_ca (goodIn_r _ [11, 12, 13] (by decide +kernel) (by decide +kernel)) (goodIn_sub (fun _ h => List.mem_cons_of_mem _ (List.mem_append_right _ h)) (by decide +kernel))
set_option maxRecDepth 20000 in
theorem gX9_requireKey_X9_requirePlace : GoodIn wsX9_requireKey (va_wsS RX9 154 yX9_requirePlace wsX9_requirePlace) := goodIn_app (goodIn_of _ (by decide +kernel)) ggX9_requireKey_X9_requirePlace
theorem dX9_requireKey_0 : decode cX9_requireKey 0 = .ok (.aload_n 0, 1) := by decide +kernel
theorem dX9_requireKey_1 : decode cX9_requireKey 1 = .ok (.getfield 10, 3) := by decide +kernel
theorem dX9_requireKey_4 : decode cX9_requireKey 4 = .ok (.iload_n 1, 1) := by decide +kernel
theorem dX9_requireKey_5 : decode cX9_requireKey 5 = .ok (.iload_n 2, 1) := by decide +kernel
theorem dX9_requireKey_6 : decode cX9_requireKey 6 = .ok (.invokevirtual 292, 3) := by decide +kernel
theorem dX9_requireKey_9 : decode cX9_requireKey 9 = .ok (.invokestatic 154, 3) := by decide +kernel
theorem dX9_requireKey_12 : decode cX9_requireKey 12 = .ok (.return_, 1) := by decide +kernel
theorem dX9_requirePlace_0 : decode cX9_requirePlace 0 = .ok (.iload_n 0, 1) := by decide +kernel
theorem dX9_requirePlace_1 : decode cX9_requirePlace 1 = .ok (.ifCond .ne 14, 3) := by decide +kernel
theorem dX9_requirePlace_4 : decode cX9_requirePlace 4 = .ok (.new 295, 3) := by decide +kernel
theorem dX9_requirePlace_7 : decode cX9_requirePlace 7 = .ok (.dup, 1) := by decide +kernel
theorem dX9_requirePlace_8 : decode cX9_requirePlace 8 = .ok (.ldc_w 297, 3) := by decide +kernel
theorem dX9_requirePlace_11 : decode cX9_requirePlace 11 = .ok (.invokespecial 299, 3) := by decide +kernel
theorem dX9_requirePlace_14 : decode cX9_requirePlace 14 = .ok (.athrow, 1) := by decide +kernel
theorem dX9_requirePlace_15 : decode cX9_requirePlace 15 = .ok (.return_, 1) := by decide +kernel
theorem dX9_requireArgument_0 : decode cX9_requireArgument 0 = .ok (.iload_n 0, 1) := by decide +kernel
theorem dX9_requireArgument_1 : decode cX9_requireArgument 1 = .ok (.ifCond .ne 14, 3) := by decide +kernel
theorem dX9_requireArgument_4 : decode cX9_requireArgument 4 = .ok (.new 302, 3) := by decide +kernel
theorem dX9_requireArgument_7 : decode cX9_requireArgument 7 = .ok (.dup, 1) := by decide +kernel
theorem dX9_requireArgument_8 : decode cX9_requireArgument 8 = .ok (.ldc_w 304, 3) := by decide +kernel
theorem dX9_requireArgument_11 : decode cX9_requireArgument 11 = .ok (.invokespecial 306, 3) := by decide +kernel
theorem dX9_requireArgument_14 : decode cX9_requireArgument 14 = .ok (.athrow, 1) := by decide +kernel
theorem dX9_requireArgument_15 : decode cX9_requireArgument 15 = .ok (.return_, 1) := by decide +kernel
theorem dX9_requireState_0 : decode cX9_requireState 0 = .ok (.iload_n 0, 1) := by decide +kernel
theorem dX9_requireState_1 : decode cX9_requireState 1 = .ok (.ifCond .ne 14, 3) := by decide +kernel
theorem dX9_requireState_4 : decode cX9_requireState 4 = .ok (.new 307, 3) := by decide +kernel
theorem dX9_requireState_7 : decode cX9_requireState 7 = .ok (.dup, 1) := by decide +kernel
theorem dX9_requireState_8 : decode cX9_requireState 8 = .ok (.ldc_w 309, 3) := by decide +kernel
theorem dX9_requireState_11 : decode cX9_requireState 11 = .ok (.invokespecial 311, 3) := by decide +kernel
theorem dX9_requireState_14 : decode cX9_requireState 14 = .ok (.athrow, 1) := by decide +kernel
theorem dX9_requireState_15 : decode cX9_requireState 15 = .ok (.return_, 1) := by decide +kernel
theorem dX9_isWithin_0 : decode cX9_isWithin 0 = .ok (.iload_n 0, 1) := by decide +kernel
theorem dX9_isWithin_1 : decode cX9_isWithin 1 = .ok (.iload_n 1, 1) := by decide +kernel
theorem dX9_isWithin_2 : decode cX9_isWithin 2 = .ok (.if_icmp .lt 12, 3) := by decide +kernel
theorem dX9_isWithin_5 : decode cX9_isWithin 5 = .ok (.iload_n 0, 1) := by decide +kernel
theorem dX9_isWithin_6 : decode cX9_isWithin 6 = .ok (.iload_n 2, 1) := by decide +kernel
theorem dX9_isWithin_7 : decode cX9_isWithin 7 = .ok (.if_icmp .gt 7, 3) := by decide +kernel
theorem dX9_isWithin_10 : decode cX9_isWithin 10 = .ok (.iconst 1, 1) := by decide +kernel
theorem dX9_isWithin_11 : decode cX9_isWithin 11 = .ok (.goto 4, 3) := by decide +kernel
theorem dX9_isWithin_14 : decode cX9_isWithin 14 = .ok (.iconst 0, 1) := by decide +kernel
theorem dX9_isWithin_15 : decode cX9_isWithin 15 = .ok (.ireturn, 1) := by decide +kernel
set_option maxRecDepth 20000 in
theorem ggX9_isCode_X9_isWithin : GoodIn wsX9_isCode wsX9_isWithin := goodIn_r _ [4] (by decide +kernel) (by decide +kernel)
set_option maxRecDepth 20000 in
theorem gX9_isCode_X9_isWithin : GoodIn wsX9_isCode (va_wsS RX9 47 yX9_isWithin wsX9_isWithin) := goodIn_app (goodIn_of _ (by decide +kernel)) ggX9_isCode_X9_isWithin
theorem dX9_isCode_0 : decode cX9_isCode 0 = .ok (.iload_n 0, 1) := by decide +kernel
theorem dX9_isCode_1 : decode cX9_isCode 1 = .ok (.iconst 0, 1) := by decide +kernel
theorem dX9_isCode_2 : decode cX9_isCode 2 = .ok (.sipush 4095, 3) := by decide +kernel
theorem dX9_isCode_5 : decode cX9_isCode 5 = .ok (.invokestatic 47, 3) := by decide +kernel
theorem dX9_isCode_8 : decode cX9_isCode 8 = .ok (.ireturn, 1) := by decide +kernel
set_option maxRecDepth 20000 in
theorem ggX9_isTolerance_X9_isWithin : GoodIn wsX9_isTolerance wsX9_isWithin := goodIn_r _ [4] (by decide +kernel) (by decide +kernel)
set_option maxRecDepth 20000 in
theorem gX9_isTolerance_X9_isWithin : GoodIn wsX9_isTolerance (va_wsS RX9 47 yX9_isWithin wsX9_isWithin) := goodIn_app (goodIn_of _ (by decide +kernel)) ggX9_isTolerance_X9_isWithin
theorem dX9_isTolerance_0 : decode cX9_isTolerance 0 = .ok (.iload_n 0, 1) := by decide +kernel
theorem dX9_isTolerance_1 : decode cX9_isTolerance 1 = .ok (.iconst 0, 1) := by decide +kernel
theorem dX9_isTolerance_2 : decode cX9_isTolerance 2 = .ok (.iconst 3, 1) := by decide +kernel
theorem dX9_isTolerance_3 : decode cX9_isTolerance 3 = .ok (.invokestatic 47, 3) := by decide +kernel
theorem dX9_isTolerance_6 : decode cX9_isTolerance 6 = .ok (.ireturn, 1) := by decide +kernel
set_option maxRecDepth 20000 in
theorem ggX9_isSetting_X9_isWithin : GoodIn wsX9_isSetting wsX9_isWithin := goodIn_r _ [4] (by decide +kernel) (by decide +kernel)
set_option maxRecDepth 20000 in
theorem gX9_isSetting_X9_isWithin : GoodIn wsX9_isSetting (va_wsS RX9 47 yX9_isWithin wsX9_isWithin) := goodIn_app (goodIn_of _ (by decide +kernel)) ggX9_isSetting_X9_isWithin
theorem dX9_isSetting_0 : decode cX9_isSetting 0 = .ok (.iload_n 0, 1) := by decide +kernel
theorem dX9_isSetting_1 : decode cX9_isSetting 1 = .ok (.ifCond .ne 12, 3) := by decide +kernel
theorem dX9_isSetting_4 : decode cX9_isSetting 4 = .ok (.iload_n 1, 1) := by decide +kernel
theorem dX9_isSetting_5 : decode cX9_isSetting 5 = .ok (.iconst 0, 1) := by decide +kernel
theorem dX9_isSetting_6 : decode cX9_isSetting 6 = .ok (.iconst 3, 1) := by decide +kernel
theorem dX9_isSetting_7 : decode cX9_isSetting 7 = .ok (.invokestatic 47, 3) := by decide +kernel
theorem dX9_isSetting_10 : decode cX9_isSetting 10 = .ok (.ifCond .ne 18, 3) := by decide +kernel
theorem dX9_isSetting_13 : decode cX9_isSetting 13 = .ok (.iload_n 0, 1) := by decide +kernel
theorem dX9_isSetting_14 : decode cX9_isSetting 14 = .ok (.iconst 1, 1) := by decide +kernel
theorem dX9_isSetting_15 : decode cX9_isSetting 15 = .ok (.if_icmp .ne 17, 3) := by decide +kernel
theorem dX9_isSetting_18 : decode cX9_isSetting 18 = .ok (.iload_n 1, 1) := by decide +kernel
theorem dX9_isSetting_19 : decode cX9_isSetting 19 = .ok (.iconst 0, 1) := by decide +kernel
theorem dX9_isSetting_20 : decode cX9_isSetting 20 = .ok (.bipush 8, 2) := by decide +kernel
theorem dX9_isSetting_22 : decode cX9_isSetting 22 = .ok (.invokestatic 47, 3) := by decide +kernel
theorem dX9_isSetting_25 : decode cX9_isSetting 25 = .ok (.ifCond .eq 7, 3) := by decide +kernel
theorem dX9_isSetting_28 : decode cX9_isSetting 28 = .ok (.iconst 1, 1) := by decide +kernel
theorem dX9_isSetting_29 : decode cX9_isSetting 29 = .ok (.goto 4, 3) := by decide +kernel
theorem dX9_isSetting_32 : decode cX9_isSetting 32 = .ok (.iconst 0, 1) := by decide +kernel
theorem dX9_isSetting_33 : decode cX9_isSetting 33 = .ok (.ireturn, 1) := by decide +kernel
set_option maxRecDepth 20000 in
theorem ggX9_apart_J6_bitCount_0f7a4 : GoodIn wsX9_apart wsJ6_bitCount_0f7a4 := goodIn_r _ [4, 5, 6, 7] (by decide +kernel) (by decide +kernel)
set_option maxRecDepth 20000 in
theorem gX9_apart_J6_bitCount_0f7a4 : GoodIn wsX9_apart (va_wsS RX9 312 yJ6_bitCount_0f7a4 wsJ6_bitCount_0f7a4) := goodIn_app (goodIn_of _ (by decide +kernel)) ggX9_apart_J6_bitCount_0f7a4
theorem dX9_apart_0 : decode cX9_apart 0 = .ok (.iload_n 0, 1) := by decide +kernel
theorem dX9_apart_1 : decode cX9_apart 1 = .ok (.iload_n 1, 1) := by decide +kernel
theorem dX9_apart_2 : decode cX9_apart 2 = .ok (.ixor, 1) := by decide +kernel
theorem dX9_apart_3 : decode cX9_apart 3 = .ok (.invokestatic 312, 3) := by decide +kernel
theorem dX9_apart_6 : decode cX9_apart 6 = .ok (.ireturn, 1) := by decide +kernel
theorem dX9_powerOfTen_0 : decode cX9_powerOfTen 0 = .ok (.lconst 1, 1) := by decide +kernel
theorem dX9_powerOfTen_1 : decode cX9_powerOfTen 1 = .ok (.lstore_n 1, 1) := by decide +kernel
theorem dX9_powerOfTen_2 : decode cX9_powerOfTen 2 = .ok (.iconst 0, 1) := by decide +kernel
theorem dX9_powerOfTen_3 : decode cX9_powerOfTen 3 = .ok (.istore_n 3, 1) := by decide +kernel
theorem dX9_powerOfTen_4 : decode cX9_powerOfTen 4 = .ok (.iload_n 3, 1) := by decide +kernel
theorem dX9_powerOfTen_5 : decode cX9_powerOfTen 5 = .ok (.iload_n 0, 1) := by decide +kernel
theorem dX9_powerOfTen_6 : decode cX9_powerOfTen 6 = .ok (.if_icmp .ge 15, 3) := by decide +kernel
theorem dX9_powerOfTen_9 : decode cX9_powerOfTen 9 = .ok (.lload_n 1, 1) := by decide +kernel
theorem dX9_powerOfTen_10 : decode cX9_powerOfTen 10 = .ok (.ldc2_w 317, 3) := by decide +kernel
theorem dX9_powerOfTen_13 : decode cX9_powerOfTen 13 = .ok (.lmul, 1) := by decide +kernel
theorem dX9_powerOfTen_14 : decode cX9_powerOfTen 14 = .ok (.lstore_n 1, 1) := by decide +kernel
theorem dX9_powerOfTen_15 : decode cX9_powerOfTen 15 = .ok (.iinc 3 1, 3) := by decide +kernel
theorem dX9_powerOfTen_18 : decode cX9_powerOfTen 18 = .ok (.goto (-14), 3) := by decide +kernel
theorem dX9_powerOfTen_21 : decode cX9_powerOfTen 21 = .ok (.lload_n 1, 1) := by decide +kernel
theorem dX9_powerOfTen_22 : decode cX9_powerOfTen 22 = .ok (.lreturn, 1) := by decide +kernel
set_option maxRecDepth 20000 in
theorem ggX10_init_X10_anew : GoodIn wsX10_init wsX10_anew := goodIn_r _ [19, 5, 20, 21, 22, 23, 24, 18, 25, 26, 27, 28, 29, 30, 31, 32, 33, 34, 35, 36, 37, 38, 39, 40, 41, 42, 43, 44] (by decide +kernel) (by decide +kernel)
set_option maxRecDepth 20000 in
theorem gX10_init_X10_anew : GoodIn wsX10_init (wsV RX10 36 RX10 yX10_anew wsX10_anew) := goodIn_app (goodIn_of _ (by decide +kernel)) ggX10_init_X10_anew
theorem dX10_init_0 : decode cX10_init 0 = .ok (.aload_n 0, 1) := by decide +kernel
theorem dX10_init_1 : decode cX10_init 1 = .ok (.invokespecial 1, 3) := by decide +kernel
theorem dX10_init_4 : decode cX10_init 4 = .ok (.aload_n 0, 1) := by decide +kernel
theorem dX10_init_5 : decode cX10_init 5 = .ok (.sipush 283, 3) := by decide +kernel
theorem dX10_init_8 : decode cX10_init 8 = .ok (.newarray .int, 2) := by decide +kernel
theorem dX10_init_10 : decode cX10_init 10 = .ok (.putfield 7, 3) := by decide +kernel
theorem dX10_init_13 : decode cX10_init 13 = .ok (.aload_n 0, 1) := by decide +kernel
theorem dX10_init_14 : decode cX10_init 14 = .ok (.sipush 283, 3) := by decide +kernel
theorem dX10_init_17 : decode cX10_init 17 = .ok (.newarray .int, 2) := by decide +kernel
theorem dX10_init_19 : decode cX10_init 19 = .ok (.putfield 13, 3) := by decide +kernel
theorem dX10_init_22 : decode cX10_init 22 = .ok (.aload_n 0, 1) := by decide +kernel
theorem dX10_init_23 : decode cX10_init 23 = .ok (.sipush 3962, 3) := by decide +kernel
theorem dX10_init_26 : decode cX10_init 26 = .ok (.newarray .int, 2) := by decide +kernel
theorem dX10_init_28 : decode cX10_init 28 = .ok (.putfield 16, 3) := by decide +kernel
theorem dX10_init_31 : decode cX10_init 31 = .ok (.aload_n 0, 1) := by decide +kernel
theorem dX10_init_32 : decode cX10_init 32 = .ok (.bipush 14, 2) := by decide +kernel
theorem dX10_init_34 : decode cX10_init 34 = .ok (.newarray .long, 2) := by decide +kernel
theorem dX10_init_36 : decode cX10_init 36 = .ok (.putfield 19, 3) := by decide +kernel
theorem dX10_init_39 : decode cX10_init 39 = .ok (.aload_n 0, 1) := by decide +kernel
theorem dX10_init_40 : decode cX10_init 40 = .ok (.sipush 566, 3) := by decide +kernel
theorem dX10_init_43 : decode cX10_init 43 = .ok (.newarray .int, 2) := by decide +kernel
theorem dX10_init_45 : decode cX10_init 45 = .ok (.putfield 23, 3) := by decide +kernel
theorem dX10_init_48 : decode cX10_init 48 = .ok (.aload_n 0, 1) := by decide +kernel
theorem dX10_init_49 : decode cX10_init 49 = .ok (.iconst 2, 1) := by decide +kernel
theorem dX10_init_50 : decode cX10_init 50 = .ok (.newarray .long, 2) := by decide +kernel
theorem dX10_init_52 : decode cX10_init 52 = .ok (.putfield 26, 3) := by decide +kernel
theorem dX10_init_55 : decode cX10_init 55 = .ok (.aload_n 0, 1) := by decide +kernel
theorem dX10_init_56 : decode cX10_init 56 = .ok (.iconst 2, 1) := by decide +kernel
theorem dX10_init_57 : decode cX10_init 57 = .ok (.newarray .boolean, 2) := by decide +kernel
theorem dX10_init_59 : decode cX10_init 59 = .ok (.putfield 29, 3) := by decide +kernel
theorem dX10_init_62 : decode cX10_init 62 = .ok (.aload_n 0, 1) := by decide +kernel
theorem dX10_init_63 : decode cX10_init 63 = .ok (.bipush 120, 2) := by decide +kernel
theorem dX10_init_65 : decode cX10_init 65 = .ok (.newarray .int, 2) := by decide +kernel
theorem dX10_init_67 : decode cX10_init 67 = .ok (.putfield 33, 3) := by decide +kernel
theorem dX10_init_70 : decode cX10_init 70 = .ok (.aload_n 0, 1) := by decide +kernel
theorem dX10_init_71 : decode cX10_init 71 = .ok (.invokevirtual 36, 3) := by decide +kernel
theorem dX10_init_74 : decode cX10_init 74 = .ok (.return_, 1) := by decide +kernel
theorem dX10_thrown_0 : decode cX10_thrown 0 = .ok (.aload_n 0, 1) := by decide +kernel
theorem dX10_thrown_1 : decode cX10_thrown 1 = .ok (.getfield 39, 3) := by decide +kernel
theorem dX10_thrown_4 : decode cX10_thrown 4 = .ok (.ireturn, 1) := by decide +kernel
theorem dX10_in_0 : decode cX10_in 0 = .ok (.lload_n 0, 1) := by decide +kernel
theorem dX10_in_1 : decode cX10_in 1 = .ok (.lload_n 2, 1) := by decide +kernel
theorem dX10_in_2 : decode cX10_in 2 = .ok (.lcmp, 1) := by decide +kernel
theorem dX10_in_3 : decode cX10_in 3 = .ok (.ifCond .lt 14, 3) := by decide +kernel
theorem dX10_in_6 : decode cX10_in 6 = .ok (.lload_n 0, 1) := by decide +kernel
theorem dX10_in_7 : decode cX10_in 7 = .ok (.lload 4, 2) := by decide +kernel
theorem dX10_in_9 : decode cX10_in 9 = .ok (.lcmp, 1) := by decide +kernel
theorem dX10_in_10 : decode cX10_in 10 = .ok (.ifCond .gt 7, 3) := by decide +kernel
theorem dX10_in_13 : decode cX10_in 13 = .ok (.iconst 1, 1) := by decide +kernel
theorem dX10_in_14 : decode cX10_in 14 = .ok (.goto 4, 3) := by decide +kernel
theorem dX10_in_17 : decode cX10_in 17 = .ok (.iconst 0, 1) := by decide +kernel
theorem dX10_in_18 : decode cX10_in 18 = .ok (.ireturn, 1) := by decide +kernel
theorem dX10_fails_0 : decode cX10_fails 0 = .ok (.aload_n 0, 1) := by decide +kernel
theorem dX10_fails_1 : decode cX10_fails 1 = .ok (.iload_n 1, 1) := by decide +kernel
theorem dX10_fails_2 : decode cX10_fails 2 = .ok (.putfield 39, 3) := by decide +kernel
theorem dX10_fails_5 : decode cX10_fails 5 = .ok (.iconst 0, 1) := by decide +kernel
theorem dX10_fails_6 : decode cX10_fails 6 = .ok (.ireturn, 1) := by decide +kernel
set_option maxRecDepth 20000 in
theorem ggX10_anew_X10_in : GoodIn wsX10_anew wsX10_in := goodIn_r _ [8] (by decide +kernel) (by decide +kernel)
set_option maxRecDepth 20000 in
theorem gX10_anew_X10_in : GoodIn wsX10_anew (va_wsS RX10 47 yX10_in wsX10_in) := goodIn_app (goodIn_of _ (by decide +kernel)) ggX10_anew_X10_in
theorem dX10_anew_0 : decode cX10_anew 0 = .ok (.iconst 0, 1) := by decide +kernel
theorem dX10_anew_1 : decode cX10_anew 1 = .ok (.istore_n 1, 1) := by decide +kernel
theorem dX10_anew_2 : decode cX10_anew 2 = .ok (.iload_n 1, 1) := by decide +kernel
theorem dX10_anew_3 : decode cX10_anew 3 = .ok (.sipush 283, 3) := by decide +kernel
theorem dX10_anew_6 : decode cX10_anew 6 = .ok (.if_icmp .ge 34, 3) := by decide +kernel
theorem dX10_anew_9 : decode cX10_anew 9 = .ok (.aload_n 0, 1) := by decide +kernel
theorem dX10_anew_10 : decode cX10_anew 10 = .ok (.getfield 7, 3) := by decide +kernel
theorem dX10_anew_13 : decode cX10_anew 13 = .ok (.iload_n 1, 1) := by decide +kernel
theorem dX10_anew_14 : decode cX10_anew 14 = .ok (.iload_n 1, 1) := by decide +kernel
theorem dX10_anew_15 : decode cX10_anew 15 = .ok (.i2l, 1) := by decide +kernel
theorem dX10_anew_16 : decode cX10_anew 16 = .ok (.ldc2_w 43, 3) := by decide +kernel
theorem dX10_anew_19 : decode cX10_anew 19 = .ok (.ldc2_w 45, 3) := by decide +kernel
theorem dX10_anew_22 : decode cX10_anew 22 = .ok (.invokestatic 47, 3) := by decide +kernel
theorem dX10_anew_25 : decode cX10_anew 25 = .ok (.ifCond .eq 7, 3) := by decide +kernel
theorem dX10_anew_28 : decode cX10_anew 28 = .ok (.iconst (-1), 1) := by decide +kernel
theorem dX10_anew_29 : decode cX10_anew 29 = .ok (.goto 4, 3) := by decide +kernel
theorem dX10_anew_32 : decode cX10_anew 32 = .ok (.iconst 0, 1) := by decide +kernel
theorem dX10_anew_33 : decode cX10_anew 33 = .ok (.iastore, 1) := by decide +kernel
theorem dX10_anew_34 : decode cX10_anew 34 = .ok (.iinc 1 1, 3) := by decide +kernel
theorem dX10_anew_37 : decode cX10_anew 37 = .ok (.goto (-35), 3) := by decide +kernel
theorem dX10_anew_40 : decode cX10_anew 40 = .ok (.aload_n 0, 1) := by decide +kernel
theorem dX10_anew_41 : decode cX10_anew 41 = .ok (.getfield 7, 3) := by decide +kernel
theorem dX10_anew_44 : decode cX10_anew 44 = .ok (.iconst 0, 1) := by decide +kernel
theorem dX10_anew_45 : decode cX10_anew 45 = .ok (.iconst 4, 1) := by decide +kernel
theorem dX10_anew_46 : decode cX10_anew 46 = .ok (.iastore, 1) := by decide +kernel
theorem dX10_anew_47 : decode cX10_anew 47 = .ok (.aload_n 0, 1) := by decide +kernel
theorem dX10_anew_48 : decode cX10_anew 48 = .ok (.getfield 7, 3) := by decide +kernel
theorem dX10_anew_51 : decode cX10_anew 51 = .ok (.iconst 3, 1) := by decide +kernel
theorem dX10_anew_52 : decode cX10_anew 52 = .ok (.iconst 1, 1) := by decide +kernel
theorem dX10_anew_53 : decode cX10_anew 53 = .ok (.iastore, 1) := by decide +kernel
theorem dX10_anew_54 : decode cX10_anew 54 = .ok (.aload_n 0, 1) := by decide +kernel
theorem dX10_anew_55 : decode cX10_anew 55 = .ok (.getfield 7, 3) := by decide +kernel
theorem dX10_anew_58 : decode cX10_anew 58 = .ok (.iconst 4, 1) := by decide +kernel
theorem dX10_anew_59 : decode cX10_anew 59 = .ok (.iconst 2, 1) := by decide +kernel
theorem dX10_anew_60 : decode cX10_anew 60 = .ok (.iastore, 1) := by decide +kernel
theorem dX10_anew_61 : decode cX10_anew 61 = .ok (.aload_n 0, 1) := by decide +kernel
theorem dX10_anew_62 : decode cX10_anew 62 = .ok (.lconst 1, 1) := by decide +kernel
theorem dX10_anew_63 : decode cX10_anew 63 = .ok (.putfield 51, 3) := by decide +kernel
theorem dX10_anew_66 : decode cX10_anew 66 = .ok (.return_, 1) := by decide +kernel
theorem dX10_keep_0 : decode cX10_keep 0 = .ok (.iconst 0, 1) := by decide +kernel
theorem dX10_keep_1 : decode cX10_keep 1 = .ok (.istore_n 1, 1) := by decide +kernel
theorem dX10_keep_2 : decode cX10_keep 2 = .ok (.iload_n 1, 1) := by decide +kernel
theorem dX10_keep_3 : decode cX10_keep 3 = .ok (.sipush 283, 3) := by decide +kernel
theorem dX10_keep_6 : decode cX10_keep 6 = .ok (.if_icmp .ge 21, 3) := by decide +kernel
theorem dX10_keep_9 : decode cX10_keep 9 = .ok (.aload_n 0, 1) := by decide +kernel
theorem dX10_keep_10 : decode cX10_keep 10 = .ok (.getfield 13, 3) := by decide +kernel
theorem dX10_keep_13 : decode cX10_keep 13 = .ok (.iload_n 1, 1) := by decide +kernel
theorem dX10_keep_14 : decode cX10_keep 14 = .ok (.aload_n 0, 1) := by decide +kernel
theorem dX10_keep_15 : decode cX10_keep 15 = .ok (.getfield 7, 3) := by decide +kernel
theorem dX10_keep_18 : decode cX10_keep 18 = .ok (.iload_n 1, 1) := by decide +kernel
theorem dX10_keep_19 : decode cX10_keep 19 = .ok (.iaload, 1) := by decide +kernel
theorem dX10_keep_20 : decode cX10_keep 20 = .ok (.iastore, 1) := by decide +kernel
theorem dX10_keep_21 : decode cX10_keep 21 = .ok (.iinc 1 1, 3) := by decide +kernel
theorem dX10_keep_24 : decode cX10_keep 24 = .ok (.goto (-22), 3) := by decide +kernel
theorem dX10_keep_27 : decode cX10_keep 27 = .ok (.aload_n 0, 1) := by decide +kernel
theorem dX10_keep_28 : decode cX10_keep 28 = .ok (.aload_n 0, 1) := by decide +kernel
theorem dX10_keep_29 : decode cX10_keep 29 = .ok (.getfield 51, 3) := by decide +kernel
theorem dX10_keep_32 : decode cX10_keep 32 = .ok (.putfield 55, 3) := by decide +kernel
theorem dX10_keep_35 : decode cX10_keep 35 = .ok (.return_, 1) := by decide +kernel
theorem dX10_bringBack_0 : decode cX10_bringBack 0 = .ok (.iconst 0, 1) := by decide +kernel
theorem dX10_bringBack_1 : decode cX10_bringBack 1 = .ok (.istore_n 1, 1) := by decide +kernel
theorem dX10_bringBack_2 : decode cX10_bringBack 2 = .ok (.iload_n 1, 1) := by decide +kernel
theorem dX10_bringBack_3 : decode cX10_bringBack 3 = .ok (.sipush 283, 3) := by decide +kernel
theorem dX10_bringBack_6 : decode cX10_bringBack 6 = .ok (.if_icmp .ge 21, 3) := by decide +kernel
theorem dX10_bringBack_9 : decode cX10_bringBack 9 = .ok (.aload_n 0, 1) := by decide +kernel
theorem dX10_bringBack_10 : decode cX10_bringBack 10 = .ok (.getfield 7, 3) := by decide +kernel
theorem dX10_bringBack_13 : decode cX10_bringBack 13 = .ok (.iload_n 1, 1) := by decide +kernel
theorem dX10_bringBack_14 : decode cX10_bringBack 14 = .ok (.aload_n 0, 1) := by decide +kernel
theorem dX10_bringBack_15 : decode cX10_bringBack 15 = .ok (.getfield 13, 3) := by decide +kernel
theorem dX10_bringBack_18 : decode cX10_bringBack 18 = .ok (.iload_n 1, 1) := by decide +kernel
theorem dX10_bringBack_19 : decode cX10_bringBack 19 = .ok (.iaload, 1) := by decide +kernel
theorem dX10_bringBack_20 : decode cX10_bringBack 20 = .ok (.iastore, 1) := by decide +kernel
theorem dX10_bringBack_21 : decode cX10_bringBack 21 = .ok (.iinc 1 1, 3) := by decide +kernel
theorem dX10_bringBack_24 : decode cX10_bringBack 24 = .ok (.goto (-22), 3) := by decide +kernel
theorem dX10_bringBack_27 : decode cX10_bringBack 27 = .ok (.aload_n 0, 1) := by decide +kernel
theorem dX10_bringBack_28 : decode cX10_bringBack 28 = .ok (.aload_n 0, 1) := by decide +kernel
theorem dX10_bringBack_29 : decode cX10_bringBack 29 = .ok (.getfield 55, 3) := by decide +kernel
theorem dX10_bringBack_32 : decode cX10_bringBack 32 = .ok (.putfield 51, 3) := by decide +kernel
theorem dX10_bringBack_35 : decode cX10_bringBack 35 = .ok (.return_, 1) := by decide +kernel
theorem dX10_remember_0 : decode cX10_remember 0 = .ok (.aload_n 0, 1) := by decide +kernel
theorem dX10_remember_1 : decode cX10_remember 1 = .ok (.getfield 58, 3) := by decide +kernel
theorem dX10_remember_4 : decode cX10_remember 4 = .ok (.bipush 14, 2) := by decide +kernel
theorem dX10_remember_6 : decode cX10_remember 6 = .ok (.if_icmp .ne 72, 3) := by decide +kernel
theorem dX10_remember_9 : decode cX10_remember 9 = .ok (.iconst 0, 1) := by decide +kernel
theorem dX10_remember_10 : decode cX10_remember 10 = .ok (.istore_n 1, 1) := by decide +kernel
theorem dX10_remember_11 : decode cX10_remember 11 = .ok (.iload_n 1, 1) := by decide +kernel
theorem dX10_remember_12 : decode cX10_remember 12 = .ok (.sipush 3679, 3) := by decide +kernel
theorem dX10_remember_15 : decode cX10_remember 15 = .ok (.if_icmp .ge 25, 3) := by decide +kernel
theorem dX10_remember_18 : decode cX10_remember 18 = .ok (.aload_n 0, 1) := by decide +kernel
theorem dX10_remember_19 : decode cX10_remember 19 = .ok (.getfield 16, 3) := by decide +kernel
theorem dX10_remember_22 : decode cX10_remember 22 = .ok (.iload_n 1, 1) := by decide +kernel
theorem dX10_remember_23 : decode cX10_remember 23 = .ok (.aload_n 0, 1) := by decide +kernel
theorem dX10_remember_24 : decode cX10_remember 24 = .ok (.getfield 16, 3) := by decide +kernel
theorem dX10_remember_27 : decode cX10_remember 27 = .ok (.iload_n 1, 1) := by decide +kernel
theorem dX10_remember_28 : decode cX10_remember 28 = .ok (.sipush 283, 3) := by decide +kernel
theorem dX10_remember_31 : decode cX10_remember 31 = .ok (.iadd, 1) := by decide +kernel
theorem dX10_remember_32 : decode cX10_remember 32 = .ok (.iaload, 1) := by decide +kernel
theorem dX10_remember_33 : decode cX10_remember 33 = .ok (.iastore, 1) := by decide +kernel
theorem dX10_remember_34 : decode cX10_remember 34 = .ok (.iinc 1 1, 3) := by decide +kernel
theorem dX10_remember_37 : decode cX10_remember 37 = .ok (.goto (-26), 3) := by decide +kernel
theorem dX10_remember_40 : decode cX10_remember 40 = .ok (.iconst 0, 1) := by decide +kernel
theorem dX10_remember_41 : decode cX10_remember 41 = .ok (.istore_n 1, 1) := by decide +kernel
theorem dX10_remember_42 : decode cX10_remember 42 = .ok (.iload_n 1, 1) := by decide +kernel
theorem dX10_remember_43 : decode cX10_remember 43 = .ok (.bipush 13, 2) := by decide +kernel
theorem dX10_remember_45 : decode cX10_remember 45 = .ok (.if_icmp .ge 23, 3) := by decide +kernel
theorem dX10_remember_48 : decode cX10_remember 48 = .ok (.aload_n 0, 1) := by decide +kernel
theorem dX10_remember_49 : decode cX10_remember 49 = .ok (.getfield 19, 3) := by decide +kernel
theorem dX10_remember_52 : decode cX10_remember 52 = .ok (.iload_n 1, 1) := by decide +kernel
theorem dX10_remember_53 : decode cX10_remember 53 = .ok (.aload_n 0, 1) := by decide +kernel
theorem dX10_remember_54 : decode cX10_remember 54 = .ok (.getfield 19, 3) := by decide +kernel
theorem dX10_remember_57 : decode cX10_remember 57 = .ok (.iload_n 1, 1) := by decide +kernel
theorem dX10_remember_58 : decode cX10_remember 58 = .ok (.iconst 1, 1) := by decide +kernel
theorem dX10_remember_59 : decode cX10_remember 59 = .ok (.iadd, 1) := by decide +kernel
theorem dX10_remember_60 : decode cX10_remember 60 = .ok (.laload, 1) := by decide +kernel
theorem dX10_remember_61 : decode cX10_remember 61 = .ok (.lastore, 1) := by decide +kernel
theorem dX10_remember_62 : decode cX10_remember 62 = .ok (.iinc 1 1, 3) := by decide +kernel
theorem dX10_remember_65 : decode cX10_remember 65 = .ok (.goto (-23), 3) := by decide +kernel
theorem dX10_remember_68 : decode cX10_remember 68 = .ok (.aload_n 0, 1) := by decide +kernel
theorem dX10_remember_69 : decode cX10_remember 69 = .ok (.dup, 1) := by decide +kernel
theorem dX10_remember_70 : decode cX10_remember 70 = .ok (.getfield 58, 3) := by decide +kernel
theorem dX10_remember_73 : decode cX10_remember 73 = .ok (.iconst 1, 1) := by decide +kernel
theorem dX10_remember_74 : decode cX10_remember 74 = .ok (.isub, 1) := by decide +kernel
theorem dX10_remember_75 : decode cX10_remember 75 = .ok (.putfield 58, 3) := by decide +kernel
theorem dX10_remember_78 : decode cX10_remember 78 = .ok (.iconst 0, 1) := by decide +kernel
theorem dX10_remember_79 : decode cX10_remember 79 = .ok (.istore_n 1, 1) := by decide +kernel
theorem dX10_remember_80 : decode cX10_remember 80 = .ok (.iload_n 1, 1) := by decide +kernel
theorem dX10_remember_81 : decode cX10_remember 81 = .ok (.sipush 283, 3) := by decide +kernel
theorem dX10_remember_84 : decode cX10_remember 84 = .ok (.if_icmp .ge 30, 3) := by decide +kernel
theorem dX10_remember_87 : decode cX10_remember 87 = .ok (.aload_n 0, 1) := by decide +kernel
theorem dX10_remember_88 : decode cX10_remember 88 = .ok (.getfield 16, 3) := by decide +kernel
theorem dX10_remember_91 : decode cX10_remember 91 = .ok (.sipush 283, 3) := by decide +kernel
theorem dX10_remember_94 : decode cX10_remember 94 = .ok (.aload_n 0, 1) := by decide +kernel
theorem dX10_remember_95 : decode cX10_remember 95 = .ok (.getfield 58, 3) := by decide +kernel
theorem dX10_remember_98 : decode cX10_remember 98 = .ok (.imul, 1) := by decide +kernel
theorem dX10_remember_99 : decode cX10_remember 99 = .ok (.iload_n 1, 1) := by decide +kernel
theorem dX10_remember_100 : decode cX10_remember 100 = .ok (.iadd, 1) := by decide +kernel
theorem dX10_remember_101 : decode cX10_remember 101 = .ok (.aload_n 0, 1) := by decide +kernel
theorem dX10_remember_102 : decode cX10_remember 102 = .ok (.getfield 7, 3) := by decide +kernel
theorem dX10_remember_105 : decode cX10_remember 105 = .ok (.iload_n 1, 1) := by decide +kernel
theorem dX10_remember_106 : decode cX10_remember 106 = .ok (.iaload, 1) := by decide +kernel
theorem dX10_remember_107 : decode cX10_remember 107 = .ok (.iastore, 1) := by decide +kernel
theorem dX10_remember_108 : decode cX10_remember 108 = .ok (.iinc 1 1, 3) := by decide +kernel
theorem dX10_remember_111 : decode cX10_remember 111 = .ok (.goto (-31), 3) := by decide +kernel
theorem dX10_remember_114 : decode cX10_remember 114 = .ok (.aload_n 0, 1) := by decide +kernel
theorem dX10_remember_115 : decode cX10_remember 115 = .ok (.getfield 19, 3) := by decide +kernel
theorem dX10_remember_118 : decode cX10_remember 118 = .ok (.aload_n 0, 1) := by decide +kernel
theorem dX10_remember_119 : decode cX10_remember 119 = .ok (.getfield 58, 3) := by decide +kernel
theorem dX10_remember_122 : decode cX10_remember 122 = .ok (.aload_n 0, 1) := by decide +kernel
theorem dX10_remember_123 : decode cX10_remember 123 = .ok (.getfield 51, 3) := by decide +kernel
theorem dX10_remember_126 : decode cX10_remember 126 = .ok (.lastore, 1) := by decide +kernel
theorem dX10_remember_127 : decode cX10_remember 127 = .ok (.aload_n 0, 1) := by decide +kernel
theorem dX10_remember_128 : decode cX10_remember 128 = .ok (.dup, 1) := by decide +kernel
theorem dX10_remember_129 : decode cX10_remember 129 = .ok (.getfield 58, 3) := by decide +kernel
theorem dX10_remember_132 : decode cX10_remember 132 = .ok (.iconst 1, 1) := by decide +kernel
theorem dX10_remember_133 : decode cX10_remember 133 = .ok (.iadd, 1) := by decide +kernel
theorem dX10_remember_134 : decode cX10_remember 134 = .ok (.putfield 58, 3) := by decide +kernel
theorem dX10_remember_137 : decode cX10_remember 137 = .ok (.return_, 1) := by decide +kernel
set_option maxRecDepth 20000 in
theorem ggX10_isHouse_X10_in : GoodIn wsX10_isHouse wsX10_in := goodIn_r _ [5] (by decide +kernel) (by decide +kernel)
set_option maxRecDepth 20000 in
theorem gX10_isHouse_X10_in : GoodIn wsX10_isHouse (va_wsS RX10 47 yX10_in wsX10_in) := goodIn_app (goodIn_of _ (by decide +kernel)) ggX10_isHouse_X10_in
theorem dX10_isHouse_0 : decode cX10_isHouse 0 = .ok (.iload_n 1, 1) := by decide +kernel
theorem dX10_isHouse_1 : decode cX10_isHouse 1 = .ok (.i2l, 1) := by decide +kernel
theorem dX10_isHouse_2 : decode cX10_isHouse 2 = .ok (.lconst 0, 1) := by decide +kernel
theorem dX10_isHouse_3 : decode cX10_isHouse 3 = .ok (.aload_n 0, 1) := by decide +kernel
theorem dX10_isHouse_4 : decode cX10_isHouse 4 = .ok (.getfield 7, 3) := by decide +kernel
theorem dX10_isHouse_7 : decode cX10_isHouse 7 = .ok (.iconst 0, 1) := by decide +kernel
theorem dX10_isHouse_8 : decode cX10_isHouse 8 = .ok (.iaload, 1) := by decide +kernel
theorem dX10_isHouse_9 : decode cX10_isHouse 9 = .ok (.iconst 1, 1) := by decide +kernel
theorem dX10_isHouse_10 : decode cX10_isHouse 10 = .ok (.isub, 1) := by decide +kernel
theorem dX10_isHouse_11 : decode cX10_isHouse 11 = .ok (.i2l, 1) := by decide +kernel
theorem dX10_isHouse_12 : decode cX10_isHouse 12 = .ok (.invokestatic 47, 3) := by decide +kernel
theorem dX10_isHouse_15 : decode cX10_isHouse 15 = .ok (.ireturn, 1) := by decide +kernel
set_option maxRecDepth 20000 in
theorem ggX10_isKey_X10_isHouse : GoodIn wsX10_isKey wsX10_isHouse := goodIn_r _ [6, 7, 8, 9, 5, 10, 11, 12, 13, 14, 15, 16, 17, 18, 19, 20, 21, 22, 23, 24, 25, 26, 27, 28, 29] (by decide +kernel) (by decide +kernel)
set_option maxRecDepth 20000 in
theorem gX10_isKey_X10_isHouse : GoodIn wsX10_isKey (wsV RX10 61 RX10 yX10_isHouse wsX10_isHouse) := goodIn_app (goodIn_of _ (by decide +kernel)) ggX10_isKey_X10_isHouse
set_option maxRecDepth 20000 in
theorem ggX10_isKey_X10_in : GoodIn wsX10_isKey wsX10_in := goodIn_r _ [10] (by decide +kernel) (by decide +kernel)
set_option maxRecDepth 20000 in
theorem gX10_isKey_X10_in : GoodIn wsX10_isKey (va_wsS RX10 47 yX10_in wsX10_in) := goodIn_app (goodIn_of _ (by decide +kernel)) ggX10_isKey_X10_in
theorem dX10_isKey_0 : decode cX10_isKey 0 = .ok (.aload_n 0, 1) := by decide +kernel
theorem dX10_isKey_1 : decode cX10_isKey 1 = .ok (.iload_n 1, 1) := by decide +kernel
theorem dX10_isKey_2 : decode cX10_isKey 2 = .ok (.invokevirtual 61, 3) := by decide +kernel
theorem dX10_isKey_5 : decode cX10_isKey 5 = .ok (.ifCond .eq 19, 3) := by decide +kernel
theorem dX10_isKey_8 : decode cX10_isKey 8 = .ok (.iload_n 2, 1) := by decide +kernel
theorem dX10_isKey_9 : decode cX10_isKey 9 = .ok (.i2l, 1) := by decide +kernel
theorem dX10_isKey_10 : decode cX10_isKey 10 = .ok (.lconst 0, 1) := by decide +kernel
theorem dX10_isKey_11 : decode cX10_isKey 11 = .ok (.ldc2_w 43, 3) := by decide +kernel
theorem dX10_isKey_14 : decode cX10_isKey 14 = .ok (.invokestatic 47, 3) := by decide +kernel
theorem dX10_isKey_17 : decode cX10_isKey 17 = .ok (.ifCond .eq 7, 3) := by decide +kernel
theorem dX10_isKey_20 : decode cX10_isKey 20 = .ok (.iconst 1, 1) := by decide +kernel
theorem dX10_isKey_21 : decode cX10_isKey 21 = .ok (.goto 4, 3) := by decide +kernel
theorem dX10_isKey_24 : decode cX10_isKey 24 = .ok (.iconst 0, 1) := by decide +kernel
theorem dX10_isKey_25 : decode cX10_isKey 25 = .ok (.ireturn, 1) := by decide +kernel
set_option maxRecDepth 20000 in
theorem ggX10_isRecord_X10_in : GoodIn wsX10_isRecord wsX10_in := goodIn_r _ [5] (by decide +kernel) (by decide +kernel)
set_option maxRecDepth 20000 in
theorem gX10_isRecord_X10_in : GoodIn wsX10_isRecord (va_wsS RX10 47 yX10_in wsX10_in) := goodIn_app (goodIn_of _ (by decide +kernel)) ggX10_isRecord_X10_in
theorem dX10_isRecord_0 : decode cX10_isRecord 0 = .ok (.iload_n 1, 1) := by decide +kernel
theorem dX10_isRecord_1 : decode cX10_isRecord 1 = .ok (.i2l, 1) := by decide +kernel
theorem dX10_isRecord_2 : decode cX10_isRecord 2 = .ok (.lconst 0, 1) := by decide +kernel
