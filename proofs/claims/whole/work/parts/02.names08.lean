theorem dX10_runScript_40 : decode cX10_runScript 40 = .ok (.ldc2_w 198, 3) := by decide +kernel
theorem dX10_runScript_43 : decode cX10_runScript 43 = .ok (.invokestatic 47, 3) := by decide +kernel
theorem dX10_runScript_46 : decode cX10_runScript 46 = .ok (.ifCond .eq 16, 3) := by decide +kernel
theorem dX10_runScript_49 : decode cX10_runScript 49 = .ok (.lload_n 2, 1) := by decide +kernel
theorem dX10_runScript_50 : decode cX10_runScript 50 = .ok (.lconst 0, 1) := by decide +kernel
theorem dX10_runScript_51 : decode cX10_runScript 51 = .ok (.lcmp, 1) := by decide +kernel
theorem dX10_runScript_52 : decode cX10_runScript 52 = .ok (.ifCond .lt 10, 3) := by decide +kernel
theorem dX10_runScript_55 : decode cX10_runScript 55 = .ok (.lload_n 2, 1) := by decide +kernel
theorem dX10_runScript_56 : decode cX10_runScript 56 = .ok (.lload 4, 2) := by decide +kernel
theorem dX10_runScript_58 : decode cX10_runScript 58 = .ok (.lcmp, 1) := by decide +kernel
theorem dX10_runScript_59 : decode cX10_runScript 59 = .ok (.ifCond .lt 9, 3) := by decide +kernel
theorem dX10_runScript_62 : decode cX10_runScript 62 = .ok (.aload_n 0, 1) := by decide +kernel
theorem dX10_runScript_63 : decode cX10_runScript 63 = .ok (.iconst 1, 1) := by decide +kernel
theorem dX10_runScript_64 : decode cX10_runScript 64 = .ok (.invokevirtual 105, 3) := by decide +kernel
theorem dX10_runScript_67 : decode cX10_runScript 67 = .ok (.ireturn, 1) := by decide +kernel
theorem dX10_runScript_68 : decode cX10_runScript 68 = .ok (.aload_n 0, 1) := by decide +kernel
theorem dX10_runScript_69 : decode cX10_runScript 69 = .ok (.invokevirtual 220, 3) := by decide +kernel
theorem dX10_runScript_72 : decode cX10_runScript 72 = .ok (.bipush (-9), 2) := by decide +kernel
theorem dX10_runScript_74 : decode cX10_runScript 74 = .ok (.istore 6, 2) := by decide +kernel
theorem dX10_runScript_76 : decode cX10_runScript 76 = .ok (.iconst 0, 1) := by decide +kernel
theorem dX10_runScript_77 : decode cX10_runScript 77 = .ok (.istore 7, 2) := by decide +kernel
theorem dX10_runScript_79 : decode cX10_runScript 79 = .ok (.iload 7, 2) := by decide +kernel
theorem dX10_runScript_81 : decode cX10_runScript 81 = .ok (.iload_n 1, 1) := by decide +kernel
theorem dX10_runScript_82 : decode cX10_runScript 82 = .ok (.if_icmp .ge 47, 3) := by decide +kernel
theorem dX10_runScript_85 : decode cX10_runScript 85 = .ok (.iload 6, 2) := by decide +kernel
theorem dX10_runScript_87 : decode cX10_runScript 87 = .ok (.ifCond .ge 42, 3) := by decide +kernel
theorem dX10_runScript_90 : decode cX10_runScript 90 = .ok (.lload 4, 2) := by decide +kernel
theorem dX10_runScript_92 : decode cX10_runScript 92 = .ok (.ldc2_w 218, 3) := by decide +kernel
theorem dX10_runScript_95 : decode cX10_runScript 95 = .ok (.ldiv, 1) := by decide +kernel
theorem dX10_runScript_96 : decode cX10_runScript 96 = .ok (.lstore 4, 2) := by decide +kernel
theorem dX10_runScript_98 : decode cX10_runScript 98 = .ok (.aload_n 0, 1) := by decide +kernel
theorem dX10_runScript_99 : decode cX10_runScript 99 = .ok (.lload_n 2, 1) := by decide +kernel
theorem dX10_runScript_100 : decode cX10_runScript 100 = .ok (.lload 4, 2) := by decide +kernel
theorem dX10_runScript_102 : decode cX10_runScript 102 = .ok (.ldiv, 1) := by decide +kernel
theorem dX10_runScript_103 : decode cX10_runScript 103 = .ok (.ldc2_w 218, 3) := by decide +kernel
theorem dX10_runScript_106 : decode cX10_runScript 106 = .ok (.lrem, 1) := by decide +kernel
theorem dX10_runScript_107 : decode cX10_runScript 107 = .ok (.l2i, 1) := by decide +kernel
theorem dX10_runScript_108 : decode cX10_runScript 108 = .ok (.invokevirtual 223, 3) := by decide +kernel
theorem dX10_runScript_111 : decode cX10_runScript 111 = .ok (.ifCond .eq 8, 3) := by decide +kernel
theorem dX10_runScript_114 : decode cX10_runScript 114 = .ok (.iload 6, 2) := by decide +kernel
theorem dX10_runScript_116 : decode cX10_runScript 116 = .ok (.goto 5, 3) := by decide +kernel
theorem dX10_runScript_119 : decode cX10_runScript 119 = .ok (.iload 7, 2) := by decide +kernel
theorem dX10_runScript_121 : decode cX10_runScript 121 = .ok (.istore 6, 2) := by decide +kernel
theorem dX10_runScript_123 : decode cX10_runScript 123 = .ok (.iinc 7 1, 3) := by decide +kernel
theorem dX10_runScript_126 : decode cX10_runScript 126 = .ok (.goto (-47), 3) := by decide +kernel
theorem dX10_runScript_129 : decode cX10_runScript 129 = .ok (.aload_n 0, 1) := by decide +kernel
theorem dX10_runScript_130 : decode cX10_runScript 130 = .ok (.invokevirtual 226, 3) := by decide +kernel
theorem dX10_runScript_133 : decode cX10_runScript 133 = .ok (.iload 6, 2) := by decide +kernel
theorem dX10_runScript_135 : decode cX10_runScript 135 = .ok (.ireturn, 1) := by decide +kernel
set_option maxRecDepth 20000 in
theorem ggX10_simulate_X10_isKey : GoodIn wsX10_simulate wsX10_isKey := goodIn_r _ [9, 10, 11, 12, 13, 8, 14, 3, 15, 16, 17, 48, 49, 50, 51, 52, 53, 54, 55, 56, 57, 58, 59, 60, 61, 62, 63, 64, 65, 66] (by decide +kernel) (by decide +kernel)
set_option maxRecDepth 20000 in
theorem gX10_simulate_X10_isKey : GoodIn wsX10_simulate (wsV RX10 161 RX10 yX10_isKey wsX10_isKey) := goodIn_app (goodIn_of _ (by decide +kernel)) ggX10_simulate_X10_isKey
set_option maxRecDepth 20000 in
theorem ggX10_simulate_X10_fails : GoodIn wsX10_simulate wsX10_fails := goodIn_r _ [21, 1, 48, 49, 50, 51, 52, 53, 54, 55, 56, 57, 58, 59, 60, 61, 62, 63, 64, 65, 66] (by decide +kernel) (by decide +kernel)
set_option maxRecDepth 20000 in
theorem gX10_simulate_X10_fails : GoodIn wsX10_simulate (wsV RX10 105 RX10 yX10_fails wsX10_fails) := goodIn_app (goodIn_of _ (by decide +kernel)) ggX10_simulate_X10_fails
set_option maxRecDepth 20000 in
theorem ggX10_simulate_X10_in : GoodIn wsX10_simulate wsX10_in := goodIn_r _ [17] (by decide +kernel) (by decide +kernel)
set_option maxRecDepth 20000 in
theorem gX10_simulate_X10_in : GoodIn wsX10_simulate (va_wsS RX10 47 yX10_in wsX10_in) := goodIn_app (goodIn_of _ (by decide +kernel)) ggX10_simulate_X10_in
set_option maxRecDepth 20000 in
theorem ggX10_simulate_X10_keyAt : GoodIn wsX10_simulate wsX10_keyAt := goodIn_r _ [24] (by decide +kernel) (by decide +kernel)
set_option maxRecDepth 20000 in
theorem gX10_simulate_X10_keyAt : GoodIn wsX10_simulate (va_wsS RX10 69 yX10_keyAt wsX10_keyAt) := goodIn_app (goodIn_of _ (by decide +kernel)) ggX10_simulate_X10_keyAt
set_option maxRecDepth 20000 in
theorem ggX10_simulate_X10_of : GoodIn wsX10_simulate wsX10_of := goodIn_r _ [28, 3, 48, 49, 50, 51, 52, 53, 54, 55, 56, 57, 58, 59, 60, 61, 62, 63, 64, 65, 66] (by decide +kernel) (by decide +kernel)
set_option maxRecDepth 20000 in
theorem gX10_simulate_X10_of : GoodIn wsX10_simulate (wsV RX10 65 RX10 yX10_of wsX10_of) := goodIn_app (goodIn_of _ (by decide +kernel)) ggX10_simulate_X10_of
set_option maxRecDepth 20000 in
theorem ggX10_simulate_X10_handedOn : GoodIn wsX10_simulate wsX10_handedOn := goodIn_r _ [32, 33, 34, 8, 35, 36, 37, 38, 39, 4, 40, 41, 3, 42, 43, 44, 48, 49, 50, 51, 52, 53, 54, 55, 56, 57, 58, 59, 60, 61, 62, 63, 64, 65, 66] (by decide +kernel) (by decide +kernel)
set_option maxRecDepth 20000 in
theorem gX10_simulate_X10_handedOn : GoodIn wsX10_simulate (wsV RX10 211 RX10 yX10_handedOn wsX10_handedOn) := goodIn_app (goodIn_of _ (by decide +kernel)) ggX10_simulate_X10_handedOn
set_option maxRecDepth 20000 in
theorem ggX10_simulate_X10_apart : GoodIn wsX10_simulate wsX10_apart := goodIn_r _ [47] (by decide +kernel) (by decide +kernel)
set_option maxRecDepth 20000 in
theorem gX10_simulate_X10_apart : GoodIn wsX10_simulate (va_wsS RX10 93 yX10_apart wsX10_apart) := goodIn_app (goodIn_of _ (by decide +kernel)) ggX10_simulate_X10_apart
theorem dX10_simulate_0 : decode cX10_simulate 0 = .ok (.aload_n 0, 1) := by decide +kernel
theorem dX10_simulate_1 : decode cX10_simulate 1 = .ok (.iconst 0, 1) := by decide +kernel
theorem dX10_simulate_2 : decode cX10_simulate 2 = .ok (.putfield 39, 3) := by decide +kernel
theorem dX10_simulate_5 : decode cX10_simulate 5 = .ok (.aload_n 0, 1) := by decide +kernel
theorem dX10_simulate_6 : decode cX10_simulate 6 = .ok (.iload_n 1, 1) := by decide +kernel
theorem dX10_simulate_7 : decode cX10_simulate 7 = .ok (.iload_n 2, 1) := by decide +kernel
theorem dX10_simulate_8 : decode cX10_simulate 8 = .ok (.invokevirtual 161, 3) := by decide +kernel
theorem dX10_simulate_11 : decode cX10_simulate 11 = .ok (.ifCond .ne 9, 3) := by decide +kernel
theorem dX10_simulate_14 : decode cX10_simulate 14 = .ok (.aload_n 0, 1) := by decide +kernel
theorem dX10_simulate_15 : decode cX10_simulate 15 = .ok (.iconst 1, 1) := by decide +kernel
theorem dX10_simulate_16 : decode cX10_simulate 16 = .ok (.invokevirtual 105, 3) := by decide +kernel
theorem dX10_simulate_19 : decode cX10_simulate 19 = .ok (.ireturn, 1) := by decide +kernel
theorem dX10_simulate_20 : decode cX10_simulate 20 = .ok (.iload 5, 2) := by decide +kernel
theorem dX10_simulate_22 : decode cX10_simulate 22 = .ok (.i2l, 1) := by decide +kernel
theorem dX10_simulate_23 : decode cX10_simulate 23 = .ok (.lconst 1, 1) := by decide +kernel
theorem dX10_simulate_24 : decode cX10_simulate 24 = .ok (.ldc2_w 229, 3) := by decide +kernel
theorem dX10_simulate_27 : decode cX10_simulate 27 = .ok (.invokestatic 47, 3) := by decide +kernel
theorem dX10_simulate_30 : decode cX10_simulate 30 = .ok (.ifCond .ne 9, 3) := by decide +kernel
theorem dX10_simulate_33 : decode cX10_simulate 33 = .ok (.aload_n 0, 1) := by decide +kernel
theorem dX10_simulate_34 : decode cX10_simulate 34 = .ok (.iconst 2, 1) := by decide +kernel
theorem dX10_simulate_35 : decode cX10_simulate 35 = .ok (.invokevirtual 105, 3) := by decide +kernel
theorem dX10_simulate_38 : decode cX10_simulate 38 = .ok (.ireturn, 1) := by decide +kernel
theorem dX10_simulate_39 : decode cX10_simulate 39 = .ok (.aload_n 0, 1) := by decide +kernel
theorem dX10_simulate_40 : decode cX10_simulate 40 = .ok (.getfield 7, 3) := by decide +kernel
theorem dX10_simulate_43 : decode cX10_simulate 43 = .ok (.iload_n 1, 1) := by decide +kernel
theorem dX10_simulate_44 : decode cX10_simulate 44 = .ok (.iload_n 2, 1) := by decide +kernel
theorem dX10_simulate_45 : decode cX10_simulate 45 = .ok (.invokestatic 69, 3) := by decide +kernel
theorem dX10_simulate_48 : decode cX10_simulate 48 = .ok (.iaload, 1) := by decide +kernel
theorem dX10_simulate_49 : decode cX10_simulate 49 = .ok (.ifCond .ge 6, 3) := by decide +kernel
theorem dX10_simulate_52 : decode cX10_simulate 52 = .ok (.bipush (-9), 2) := by decide +kernel
theorem dX10_simulate_54 : decode cX10_simulate 54 = .ok (.ireturn, 1) := by decide +kernel
theorem dX10_simulate_55 : decode cX10_simulate 55 = .ok (.aload_n 0, 1) := by decide +kernel
theorem dX10_simulate_56 : decode cX10_simulate 56 = .ok (.aload_n 0, 1) := by decide +kernel
theorem dX10_simulate_57 : decode cX10_simulate 57 = .ok (.getfield 7, 3) := by decide +kernel
theorem dX10_simulate_60 : decode cX10_simulate 60 = .ok (.iload_n 1, 1) := by decide +kernel
theorem dX10_simulate_61 : decode cX10_simulate 61 = .ok (.iload_n 2, 1) := by decide +kernel
theorem dX10_simulate_62 : decode cX10_simulate 62 = .ok (.invokestatic 69, 3) := by decide +kernel
theorem dX10_simulate_65 : decode cX10_simulate 65 = .ok (.iaload, 1) := by decide +kernel
theorem dX10_simulate_66 : decode cX10_simulate 66 = .ok (.iconst 0, 1) := by decide +kernel
theorem dX10_simulate_67 : decode cX10_simulate 67 = .ok (.invokevirtual 65, 3) := by decide +kernel
theorem dX10_simulate_70 : decode cX10_simulate 70 = .ok (.istore 6, 2) := by decide +kernel
theorem dX10_simulate_72 : decode cX10_simulate 72 = .ok (.aload_n 0, 1) := by decide +kernel
theorem dX10_simulate_73 : decode cX10_simulate 73 = .ok (.getfield 51, 3) := by decide +kernel
theorem dX10_simulate_76 : decode cX10_simulate 76 = .ok (.lstore 7, 2) := by decide +kernel
theorem dX10_simulate_78 : decode cX10_simulate 78 = .ok (.aload_n 0, 1) := by decide +kernel
theorem dX10_simulate_79 : decode cX10_simulate 79 = .ok (.lload_n 3, 1) := by decide +kernel
theorem dX10_simulate_80 : decode cX10_simulate 80 = .ok (.putfield 51, 3) := by decide +kernel
theorem dX10_simulate_83 : decode cX10_simulate 83 = .ok (.iconst 0, 1) := by decide +kernel
theorem dX10_simulate_84 : decode cX10_simulate 84 = .ok (.istore 9, 2) := by decide +kernel
theorem dX10_simulate_86 : decode cX10_simulate 86 = .ok (.iconst 0, 1) := by decide +kernel
theorem dX10_simulate_87 : decode cX10_simulate 87 = .ok (.istore 10, 2) := by decide +kernel
theorem dX10_simulate_89 : decode cX10_simulate 89 = .ok (.iconst 0, 1) := by decide +kernel
theorem dX10_simulate_90 : decode cX10_simulate 90 = .ok (.istore 11, 2) := by decide +kernel
theorem dX10_simulate_92 : decode cX10_simulate 92 = .ok (.iload 11, 2) := by decide +kernel
theorem dX10_simulate_94 : decode cX10_simulate 94 = .ok (.iload 5, 2) := by decide +kernel
theorem dX10_simulate_96 : decode cX10_simulate 96 = .ok (.if_icmp .ge 53, 3) := by decide +kernel
theorem dX10_simulate_99 : decode cX10_simulate 99 = .ok (.aload_n 0, 1) := by decide +kernel
theorem dX10_simulate_100 : decode cX10_simulate 100 = .ok (.iload 6, 2) := by decide +kernel
theorem dX10_simulate_102 : decode cX10_simulate 102 = .ok (.iload_n 1, 1) := by decide +kernel
theorem dX10_simulate_103 : decode cX10_simulate 103 = .ok (.aload_n 0, 1) := by decide +kernel
theorem dX10_simulate_104 : decode cX10_simulate 104 = .ok (.getfield 7, 3) := by decide +kernel
theorem dX10_simulate_107 : decode cX10_simulate 107 = .ok (.iconst 0, 1) := by decide +kernel
theorem dX10_simulate_108 : decode cX10_simulate 108 = .ok (.iaload, 1) := by decide +kernel
theorem dX10_simulate_109 : decode cX10_simulate 109 = .ok (.iconst 1, 1) := by decide +kernel
theorem dX10_simulate_110 : decode cX10_simulate 110 = .ok (.isub, 1) := by decide +kernel
theorem dX10_simulate_111 : decode cX10_simulate 111 = .ok (.invokevirtual 211, 3) := by decide +kernel
theorem dX10_simulate_114 : decode cX10_simulate 114 = .ok (.iload 6, 2) := by decide +kernel
theorem dX10_simulate_116 : decode cX10_simulate 116 = .ok (.invokestatic 93, 3) := by decide +kernel
theorem dX10_simulate_119 : decode cX10_simulate 119 = .ok (.istore 12, 2) := by decide +kernel
theorem dX10_simulate_121 : decode cX10_simulate 121 = .ok (.iload 9, 2) := by decide +kernel
theorem dX10_simulate_123 : decode cX10_simulate 123 = .ok (.iload 12, 2) := by decide +kernel
theorem dX10_simulate_125 : decode cX10_simulate 125 = .ok (.ifCond .ne 7, 3) := by decide +kernel
theorem dX10_simulate_128 : decode cX10_simulate 128 = .ok (.iconst 1, 1) := by decide +kernel
theorem dX10_simulate_129 : decode cX10_simulate 129 = .ok (.goto 4, 3) := by decide +kernel
theorem dX10_simulate_132 : decode cX10_simulate 132 = .ok (.iconst 0, 1) := by decide +kernel
theorem dX10_simulate_133 : decode cX10_simulate 133 = .ok (.iadd, 1) := by decide +kernel
theorem dX10_simulate_134 : decode cX10_simulate 134 = .ok (.istore 9, 2) := by decide +kernel
theorem dX10_simulate_136 : decode cX10_simulate 136 = .ok (.iload 10, 2) := by decide +kernel
theorem dX10_simulate_138 : decode cX10_simulate 138 = .ok (.iload 12, 2) := by decide +kernel
theorem dX10_simulate_140 : decode cX10_simulate 140 = .ok (.iadd, 1) := by decide +kernel
theorem dX10_simulate_141 : decode cX10_simulate 141 = .ok (.istore 10, 2) := by decide +kernel
theorem dX10_simulate_143 : decode cX10_simulate 143 = .ok (.iinc 11 1, 3) := by decide +kernel
theorem dX10_simulate_146 : decode cX10_simulate 146 = .ok (.goto (-54), 3) := by decide +kernel
theorem dX10_simulate_149 : decode cX10_simulate 149 = .ok (.aload_n 0, 1) := by decide +kernel
theorem dX10_simulate_150 : decode cX10_simulate 150 = .ok (.lload 7, 2) := by decide +kernel
theorem dX10_simulate_152 : decode cX10_simulate 152 = .ok (.putfield 51, 3) := by decide +kernel
theorem dX10_simulate_155 : decode cX10_simulate 155 = .ok (.sipush 1000, 3) := by decide +kernel
theorem dX10_simulate_158 : decode cX10_simulate 158 = .ok (.iload 9, 2) := by decide +kernel
theorem dX10_simulate_160 : decode cX10_simulate 160 = .ok (.imul, 1) := by decide +kernel
theorem dX10_simulate_161 : decode cX10_simulate 161 = .ok (.iload 10, 2) := by decide +kernel
theorem dX10_simulate_163 : decode cX10_simulate 163 = .ok (.iadd, 1) := by decide +kernel
theorem dX10_simulate_164 : decode cX10_simulate 164 = .ok (.ireturn, 1) := by decide +kernel
set_option maxRecDepth 20000 in
theorem ggX10_save_X10_in : GoodIn wsX10_save wsX10_in := goodIn_r _ [10] (by decide +kernel) (by decide +kernel)
set_option maxRecDepth 20000 in
theorem gX10_save_X10_in : GoodIn wsX10_save (va_wsS RX10 47 yX10_in wsX10_in) := goodIn_app (goodIn_of _ (by decide +kernel)) ggX10_save_X10_in
set_option maxRecDepth 20000 in
theorem ggX10_save_X10_fails : GoodIn wsX10_save wsX10_fails := goodIn_r _ [14, 1, 15, 16, 17, 18, 19, 20, 21, 22, 23, 24, 25, 26, 27, 28, 29, 30, 31, 32, 33] (by decide +kernel) (by decide +kernel)
set_option maxRecDepth 20000 in
theorem gX10_save_X10_fails : GoodIn wsX10_save (wsV RX10 105 RX10 yX10_fails wsX10_fails) := goodIn_app (goodIn_of _ (by decide +kernel)) ggX10_save_X10_fails
theorem dX10_save_0 : decode cX10_save 0 = .ok (.aload_n 0, 1) := by decide +kernel
theorem dX10_save_1 : decode cX10_save 1 = .ok (.iconst 0, 1) := by decide +kernel
theorem dX10_save_2 : decode cX10_save 2 = .ok (.putfield 39, 3) := by decide +kernel
theorem dX10_save_5 : decode cX10_save 5 = .ok (.iload_n 1, 1) := by decide +kernel
theorem dX10_save_6 : decode cX10_save 6 = .ok (.i2l, 1) := by decide +kernel
theorem dX10_save_7 : decode cX10_save 7 = .ok (.lconst 0, 1) := by decide +kernel
theorem dX10_save_8 : decode cX10_save 8 = .ok (.lconst 1, 1) := by decide +kernel
theorem dX10_save_9 : decode cX10_save 9 = .ok (.invokestatic 47, 3) := by decide +kernel
theorem dX10_save_12 : decode cX10_save 12 = .ok (.ifCond .ne 9, 3) := by decide +kernel
theorem dX10_save_15 : decode cX10_save 15 = .ok (.aload_n 0, 1) := by decide +kernel
theorem dX10_save_16 : decode cX10_save 16 = .ok (.iconst 1, 1) := by decide +kernel
theorem dX10_save_17 : decode cX10_save 17 = .ok (.invokevirtual 105, 3) := by decide +kernel
theorem dX10_save_20 : decode cX10_save 20 = .ok (.ireturn, 1) := by decide +kernel
theorem dX10_save_21 : decode cX10_save 21 = .ok (.iconst 0, 1) := by decide +kernel
theorem dX10_save_22 : decode cX10_save 22 = .ok (.istore_n 2, 1) := by decide +kernel
theorem dX10_save_23 : decode cX10_save 23 = .ok (.iload_n 2, 1) := by decide +kernel
theorem dX10_save_24 : decode cX10_save 24 = .ok (.sipush 283, 3) := by decide +kernel
theorem dX10_save_27 : decode cX10_save 27 = .ok (.if_icmp .ge 27, 3) := by decide +kernel
theorem dX10_save_30 : decode cX10_save 30 = .ok (.aload_n 0, 1) := by decide +kernel
theorem dX10_save_31 : decode cX10_save 31 = .ok (.getfield 23, 3) := by decide +kernel
theorem dX10_save_34 : decode cX10_save 34 = .ok (.sipush 283, 3) := by decide +kernel
theorem dX10_save_37 : decode cX10_save 37 = .ok (.iload_n 1, 1) := by decide +kernel
theorem dX10_save_38 : decode cX10_save 38 = .ok (.imul, 1) := by decide +kernel
theorem dX10_save_39 : decode cX10_save 39 = .ok (.iload_n 2, 1) := by decide +kernel
theorem dX10_save_40 : decode cX10_save 40 = .ok (.iadd, 1) := by decide +kernel
theorem dX10_save_41 : decode cX10_save 41 = .ok (.aload_n 0, 1) := by decide +kernel
theorem dX10_save_42 : decode cX10_save 42 = .ok (.getfield 7, 3) := by decide +kernel
theorem dX10_save_45 : decode cX10_save 45 = .ok (.iload_n 2, 1) := by decide +kernel
theorem dX10_save_46 : decode cX10_save 46 = .ok (.iaload, 1) := by decide +kernel
theorem dX10_save_47 : decode cX10_save 47 = .ok (.iastore, 1) := by decide +kernel
theorem dX10_save_48 : decode cX10_save 48 = .ok (.iinc 2 1, 3) := by decide +kernel
theorem dX10_save_51 : decode cX10_save 51 = .ok (.goto (-28), 3) := by decide +kernel
theorem dX10_save_54 : decode cX10_save 54 = .ok (.aload_n 0, 1) := by decide +kernel
theorem dX10_save_55 : decode cX10_save 55 = .ok (.getfield 26, 3) := by decide +kernel
theorem dX10_save_58 : decode cX10_save 58 = .ok (.iload_n 1, 1) := by decide +kernel
theorem dX10_save_59 : decode cX10_save 59 = .ok (.aload_n 0, 1) := by decide +kernel
theorem dX10_save_60 : decode cX10_save 60 = .ok (.getfield 51, 3) := by decide +kernel
theorem dX10_save_63 : decode cX10_save 63 = .ok (.lastore, 1) := by decide +kernel
theorem dX10_save_64 : decode cX10_save 64 = .ok (.aload_n 0, 1) := by decide +kernel
theorem dX10_save_65 : decode cX10_save 65 = .ok (.getfield 29, 3) := by decide +kernel
theorem dX10_save_68 : decode cX10_save 68 = .ok (.iload_n 1, 1) := by decide +kernel
theorem dX10_save_69 : decode cX10_save 69 = .ok (.iconst 1, 1) := by decide +kernel
theorem dX10_save_70 : decode cX10_save 70 = .ok (.bastore, 1) := by decide +kernel
theorem dX10_save_71 : decode cX10_save 71 = .ok (.aload_n 0, 1) := by decide +kernel
theorem dX10_save_72 : decode cX10_save 72 = .ok (.getfield 7, 3) := by decide +kernel
theorem dX10_save_75 : decode cX10_save 75 = .ok (.iconst 2, 1) := by decide +kernel
theorem dX10_save_76 : decode cX10_save 76 = .ok (.iaload, 1) := by decide +kernel
theorem dX10_save_77 : decode cX10_save 77 = .ok (.ireturn, 1) := by decide +kernel
set_option maxRecDepth 20000 in
theorem ggX10_restore_X10_in : GoodIn wsX10_restore wsX10_in := goodIn_r _ [11] (by decide +kernel) (by decide +kernel)
set_option maxRecDepth 20000 in
theorem gX10_restore_X10_in : GoodIn wsX10_restore (va_wsS RX10 47 yX10_in wsX10_in) := goodIn_app (goodIn_of _ (by decide +kernel)) ggX10_restore_X10_in
set_option maxRecDepth 20000 in
theorem ggX10_restore_X10_fails : GoodIn wsX10_restore wsX10_fails := goodIn_r _ [15, 1, 16, 17, 18, 19, 20, 21, 22, 23, 24, 25, 26, 27, 28, 29, 30, 31, 32, 33, 34] (by decide +kernel) (by decide +kernel)
set_option maxRecDepth 20000 in
theorem gX10_restore_X10_fails : GoodIn wsX10_restore (wsV RX10 105 RX10 yX10_fails wsX10_fails) := goodIn_app (goodIn_of _ (by decide +kernel)) ggX10_restore_X10_fails
theorem dX10_restore_0 : decode cX10_restore 0 = .ok (.aload_n 0, 1) := by decide +kernel
theorem dX10_restore_1 : decode cX10_restore 1 = .ok (.iconst 0, 1) := by decide +kernel
theorem dX10_restore_2 : decode cX10_restore 2 = .ok (.putfield 39, 3) := by decide +kernel
theorem dX10_restore_5 : decode cX10_restore 5 = .ok (.iload_n 1, 1) := by decide +kernel
theorem dX10_restore_6 : decode cX10_restore 6 = .ok (.i2l, 1) := by decide +kernel
theorem dX10_restore_7 : decode cX10_restore 7 = .ok (.lconst 0, 1) := by decide +kernel
theorem dX10_restore_8 : decode cX10_restore 8 = .ok (.lconst 1, 1) := by decide +kernel
theorem dX10_restore_9 : decode cX10_restore 9 = .ok (.invokestatic 47, 3) := by decide +kernel
theorem dX10_restore_12 : decode cX10_restore 12 = .ok (.ifCond .ne 9, 3) := by decide +kernel
theorem dX10_restore_15 : decode cX10_restore 15 = .ok (.aload_n 0, 1) := by decide +kernel
theorem dX10_restore_16 : decode cX10_restore 16 = .ok (.iconst 1, 1) := by decide +kernel
theorem dX10_restore_17 : decode cX10_restore 17 = .ok (.invokevirtual 105, 3) := by decide +kernel
theorem dX10_restore_20 : decode cX10_restore 20 = .ok (.ireturn, 1) := by decide +kernel
theorem dX10_restore_21 : decode cX10_restore 21 = .ok (.aload_n 0, 1) := by decide +kernel
theorem dX10_restore_22 : decode cX10_restore 22 = .ok (.getfield 29, 3) := by decide +kernel
theorem dX10_restore_25 : decode cX10_restore 25 = .ok (.iload_n 1, 1) := by decide +kernel
theorem dX10_restore_26 : decode cX10_restore 26 = .ok (.baload, 1) := by decide +kernel
theorem dX10_restore_27 : decode cX10_restore 27 = .ok (.ifCond .ne 9, 3) := by decide +kernel
theorem dX10_restore_30 : decode cX10_restore 30 = .ok (.aload_n 0, 1) := by decide +kernel
theorem dX10_restore_31 : decode cX10_restore 31 = .ok (.iconst 2, 1) := by decide +kernel
theorem dX10_restore_32 : decode cX10_restore 32 = .ok (.invokevirtual 105, 3) := by decide +kernel
theorem dX10_restore_35 : decode cX10_restore 35 = .ok (.ireturn, 1) := by decide +kernel
theorem dX10_restore_36 : decode cX10_restore 36 = .ok (.iconst 0, 1) := by decide +kernel
theorem dX10_restore_37 : decode cX10_restore 37 = .ok (.istore_n 2, 1) := by decide +kernel
theorem dX10_restore_38 : decode cX10_restore 38 = .ok (.iload_n 2, 1) := by decide +kernel
theorem dX10_restore_39 : decode cX10_restore 39 = .ok (.sipush 283, 3) := by decide +kernel
theorem dX10_restore_42 : decode cX10_restore 42 = .ok (.if_icmp .ge 27, 3) := by decide +kernel
theorem dX10_restore_45 : decode cX10_restore 45 = .ok (.aload_n 0, 1) := by decide +kernel
theorem dX10_restore_46 : decode cX10_restore 46 = .ok (.getfield 7, 3) := by decide +kernel
theorem dX10_restore_49 : decode cX10_restore 49 = .ok (.iload_n 2, 1) := by decide +kernel
theorem dX10_restore_50 : decode cX10_restore 50 = .ok (.aload_n 0, 1) := by decide +kernel
theorem dX10_restore_51 : decode cX10_restore 51 = .ok (.getfield 23, 3) := by decide +kernel
theorem dX10_restore_54 : decode cX10_restore 54 = .ok (.sipush 283, 3) := by decide +kernel
theorem dX10_restore_57 : decode cX10_restore 57 = .ok (.iload_n 1, 1) := by decide +kernel
theorem dX10_restore_58 : decode cX10_restore 58 = .ok (.imul, 1) := by decide +kernel
theorem dX10_restore_59 : decode cX10_restore 59 = .ok (.iload_n 2, 1) := by decide +kernel
theorem dX10_restore_60 : decode cX10_restore 60 = .ok (.iadd, 1) := by decide +kernel
theorem dX10_restore_61 : decode cX10_restore 61 = .ok (.iaload, 1) := by decide +kernel
theorem dX10_restore_62 : decode cX10_restore 62 = .ok (.iastore, 1) := by decide +kernel
theorem dX10_restore_63 : decode cX10_restore 63 = .ok (.iinc 2 1, 3) := by decide +kernel
theorem dX10_restore_66 : decode cX10_restore 66 = .ok (.goto (-28), 3) := by decide +kernel
theorem dX10_restore_69 : decode cX10_restore 69 = .ok (.aload_n 0, 1) := by decide +kernel
theorem dX10_restore_70 : decode cX10_restore 70 = .ok (.aload_n 0, 1) := by decide +kernel
theorem dX10_restore_71 : decode cX10_restore 71 = .ok (.getfield 26, 3) := by decide +kernel
theorem dX10_restore_74 : decode cX10_restore 74 = .ok (.iload_n 1, 1) := by decide +kernel
theorem dX10_restore_75 : decode cX10_restore 75 = .ok (.laload, 1) := by decide +kernel
theorem dX10_restore_76 : decode cX10_restore 76 = .ok (.putfield 51, 3) := by decide +kernel
theorem dX10_restore_79 : decode cX10_restore 79 = .ok (.aload_n 0, 1) := by decide +kernel
theorem dX10_restore_80 : decode cX10_restore 80 = .ok (.iconst 0, 1) := by decide +kernel
theorem dX10_restore_81 : decode cX10_restore 81 = .ok (.putfield 58, 3) := by decide +kernel
theorem dX10_restore_84 : decode cX10_restore 84 = .ok (.aload_n 0, 1) := by decide +kernel
theorem dX10_restore_85 : decode cX10_restore 85 = .ok (.getfield 7, 3) := by decide +kernel
theorem dX10_restore_88 : decode cX10_restore 88 = .ok (.iconst 2, 1) := by decide +kernel
theorem dX10_restore_89 : decode cX10_restore 89 = .ok (.iaload, 1) := by decide +kernel
theorem dX10_restore_90 : decode cX10_restore 90 = .ok (.ireturn, 1) := by decide +kernel
theorem dJ6_bitCount_0f7a4_0 : decode cJ6_bitCount_0f7a4 0 = .ok (.iload_n 0, 1) := by decide +kernel
theorem dJ6_bitCount_0f7a4_1 : decode cJ6_bitCount_0f7a4 1 = .ok (.iload_n 0, 1) := by decide +kernel
theorem dJ6_bitCount_0f7a4_2 : decode cJ6_bitCount_0f7a4 2 = .ok (.iconst 1, 1) := by decide +kernel
theorem dJ6_bitCount_0f7a4_3 : decode cJ6_bitCount_0f7a4 3 = .ok (.iushr, 1) := by decide +kernel
theorem dJ6_bitCount_0f7a4_4 : decode cJ6_bitCount_0f7a4 4 = .ok (.ldc_w 265, 3) := by decide +kernel
theorem dJ6_bitCount_0f7a4_7 : decode cJ6_bitCount_0f7a4 7 = .ok (.iand, 1) := by decide +kernel
theorem dJ6_bitCount_0f7a4_8 : decode cJ6_bitCount_0f7a4 8 = .ok (.isub, 1) := by decide +kernel
theorem dJ6_bitCount_0f7a4_9 : decode cJ6_bitCount_0f7a4 9 = .ok (.istore_n 0, 1) := by decide +kernel
theorem dJ6_bitCount_0f7a4_10 : decode cJ6_bitCount_0f7a4 10 = .ok (.iload_n 0, 1) := by decide +kernel
theorem dJ6_bitCount_0f7a4_11 : decode cJ6_bitCount_0f7a4 11 = .ok (.ldc_w 266, 3) := by decide +kernel
theorem dJ6_bitCount_0f7a4_14 : decode cJ6_bitCount_0f7a4 14 = .ok (.iand, 1) := by decide +kernel
theorem dJ6_bitCount_0f7a4_15 : decode cJ6_bitCount_0f7a4 15 = .ok (.iload_n 0, 1) := by decide +kernel
theorem dJ6_bitCount_0f7a4_16 : decode cJ6_bitCount_0f7a4 16 = .ok (.iconst 2, 1) := by decide +kernel
theorem dJ6_bitCount_0f7a4_17 : decode cJ6_bitCount_0f7a4 17 = .ok (.iushr, 1) := by decide +kernel
theorem dJ6_bitCount_0f7a4_18 : decode cJ6_bitCount_0f7a4 18 = .ok (.ldc_w 266, 3) := by decide +kernel
theorem dJ6_bitCount_0f7a4_21 : decode cJ6_bitCount_0f7a4 21 = .ok (.iand, 1) := by decide +kernel
theorem dJ6_bitCount_0f7a4_22 : decode cJ6_bitCount_0f7a4 22 = .ok (.iadd, 1) := by decide +kernel
theorem dJ6_bitCount_0f7a4_23 : decode cJ6_bitCount_0f7a4 23 = .ok (.istore_n 0, 1) := by decide +kernel
theorem dJ6_bitCount_0f7a4_24 : decode cJ6_bitCount_0f7a4 24 = .ok (.iload_n 0, 1) := by decide +kernel
theorem dJ6_bitCount_0f7a4_25 : decode cJ6_bitCount_0f7a4 25 = .ok (.iload_n 0, 1) := by decide +kernel
theorem dJ6_bitCount_0f7a4_26 : decode cJ6_bitCount_0f7a4 26 = .ok (.iconst 4, 1) := by decide +kernel
theorem dJ6_bitCount_0f7a4_27 : decode cJ6_bitCount_0f7a4 27 = .ok (.iushr, 1) := by decide +kernel
theorem dJ6_bitCount_0f7a4_28 : decode cJ6_bitCount_0f7a4 28 = .ok (.iadd, 1) := by decide +kernel
theorem dJ6_bitCount_0f7a4_29 : decode cJ6_bitCount_0f7a4 29 = .ok (.ldc_w 267, 3) := by decide +kernel
theorem dJ6_bitCount_0f7a4_32 : decode cJ6_bitCount_0f7a4 32 = .ok (.iand, 1) := by decide +kernel
theorem dJ6_bitCount_0f7a4_33 : decode cJ6_bitCount_0f7a4 33 = .ok (.istore_n 0, 1) := by decide +kernel
theorem dJ6_bitCount_0f7a4_34 : decode cJ6_bitCount_0f7a4 34 = .ok (.iload_n 0, 1) := by decide +kernel
theorem dJ6_bitCount_0f7a4_35 : decode cJ6_bitCount_0f7a4 35 = .ok (.iload_n 0, 1) := by decide +kernel
theorem dJ6_bitCount_0f7a4_36 : decode cJ6_bitCount_0f7a4 36 = .ok (.bipush 8, 2) := by decide +kernel
theorem dJ6_bitCount_0f7a4_38 : decode cJ6_bitCount_0f7a4 38 = .ok (.iushr, 1) := by decide +kernel
theorem dJ6_bitCount_0f7a4_39 : decode cJ6_bitCount_0f7a4 39 = .ok (.iadd, 1) := by decide +kernel
theorem dJ6_bitCount_0f7a4_40 : decode cJ6_bitCount_0f7a4 40 = .ok (.istore_n 0, 1) := by decide +kernel
theorem dJ6_bitCount_0f7a4_41 : decode cJ6_bitCount_0f7a4 41 = .ok (.iload_n 0, 1) := by decide +kernel
theorem dJ6_bitCount_0f7a4_42 : decode cJ6_bitCount_0f7a4 42 = .ok (.iload_n 0, 1) := by decide +kernel
theorem dJ6_bitCount_0f7a4_43 : decode cJ6_bitCount_0f7a4 43 = .ok (.bipush 16, 2) := by decide +kernel
theorem dJ6_bitCount_0f7a4_45 : decode cJ6_bitCount_0f7a4 45 = .ok (.iushr, 1) := by decide +kernel
theorem dJ6_bitCount_0f7a4_46 : decode cJ6_bitCount_0f7a4 46 = .ok (.iadd, 1) := by decide +kernel
theorem dJ6_bitCount_0f7a4_47 : decode cJ6_bitCount_0f7a4 47 = .ok (.istore_n 0, 1) := by decide +kernel
theorem dJ6_bitCount_0f7a4_48 : decode cJ6_bitCount_0f7a4 48 = .ok (.iload_n 0, 1) := by decide +kernel
theorem dJ6_bitCount_0f7a4_49 : decode cJ6_bitCount_0f7a4 49 = .ok (.bipush 63, 2) := by decide +kernel
theorem dJ6_bitCount_0f7a4_51 : decode cJ6_bitCount_0f7a4 51 = .ok (.iand, 1) := by decide +kernel
theorem dJ6_bitCount_0f7a4_52 : decode cJ6_bitCount_0f7a4 52 = .ok (.ireturn, 1) := by decide +kernel
theorem dJ13_bitCount_95d88_0 : decode cJ13_bitCount_95d88 0 = .ok (.lload_n 0, 1) := by decide +kernel
theorem dJ13_bitCount_95d88_1 : decode cJ13_bitCount_95d88 1 = .ok (.lload_n 0, 1) := by decide +kernel
theorem dJ13_bitCount_95d88_2 : decode cJ13_bitCount_95d88 2 = .ok (.iconst 1, 1) := by decide +kernel
theorem dJ13_bitCount_95d88_3 : decode cJ13_bitCount_95d88 3 = .ok (.lushr, 1) := by decide +kernel
theorem dJ13_bitCount_95d88_4 : decode cJ13_bitCount_95d88 4 = .ok (.ldc2_w 314, 3) := by decide +kernel
theorem dJ13_bitCount_95d88_7 : decode cJ13_bitCount_95d88 7 = .ok (.land, 1) := by decide +kernel
theorem dJ13_bitCount_95d88_8 : decode cJ13_bitCount_95d88 8 = .ok (.lsub, 1) := by decide +kernel
theorem dJ13_bitCount_95d88_9 : decode cJ13_bitCount_95d88 9 = .ok (.lstore_n 0, 1) := by decide +kernel
theorem dJ13_bitCount_95d88_10 : decode cJ13_bitCount_95d88 10 = .ok (.lload_n 0, 1) := by decide +kernel
theorem dJ13_bitCount_95d88_11 : decode cJ13_bitCount_95d88 11 = .ok (.ldc2_w 316, 3) := by decide +kernel
theorem dJ13_bitCount_95d88_14 : decode cJ13_bitCount_95d88 14 = .ok (.land, 1) := by decide +kernel
theorem dJ13_bitCount_95d88_15 : decode cJ13_bitCount_95d88 15 = .ok (.lload_n 0, 1) := by decide +kernel
theorem dJ13_bitCount_95d88_16 : decode cJ13_bitCount_95d88 16 = .ok (.iconst 2, 1) := by decide +kernel
theorem dJ13_bitCount_95d88_17 : decode cJ13_bitCount_95d88 17 = .ok (.lushr, 1) := by decide +kernel
theorem dJ13_bitCount_95d88_18 : decode cJ13_bitCount_95d88 18 = .ok (.ldc2_w 316, 3) := by decide +kernel
theorem dJ13_bitCount_95d88_21 : decode cJ13_bitCount_95d88 21 = .ok (.land, 1) := by decide +kernel
theorem dJ13_bitCount_95d88_22 : decode cJ13_bitCount_95d88 22 = .ok (.ladd, 1) := by decide +kernel
theorem dJ13_bitCount_95d88_23 : decode cJ13_bitCount_95d88 23 = .ok (.lstore_n 0, 1) := by decide +kernel
theorem dJ13_bitCount_95d88_24 : decode cJ13_bitCount_95d88 24 = .ok (.lload_n 0, 1) := by decide +kernel
theorem dJ13_bitCount_95d88_25 : decode cJ13_bitCount_95d88 25 = .ok (.lload_n 0, 1) := by decide +kernel
theorem dJ13_bitCount_95d88_26 : decode cJ13_bitCount_95d88 26 = .ok (.iconst 4, 1) := by decide +kernel
theorem dJ13_bitCount_95d88_27 : decode cJ13_bitCount_95d88 27 = .ok (.lushr, 1) := by decide +kernel
theorem dJ13_bitCount_95d88_28 : decode cJ13_bitCount_95d88 28 = .ok (.ladd, 1) := by decide +kernel
theorem dJ13_bitCount_95d88_29 : decode cJ13_bitCount_95d88 29 = .ok (.ldc2_w 318, 3) := by decide +kernel
theorem dJ13_bitCount_95d88_32 : decode cJ13_bitCount_95d88 32 = .ok (.land, 1) := by decide +kernel
theorem dJ13_bitCount_95d88_33 : decode cJ13_bitCount_95d88 33 = .ok (.lstore_n 0, 1) := by decide +kernel
theorem dJ13_bitCount_95d88_34 : decode cJ13_bitCount_95d88 34 = .ok (.lload_n 0, 1) := by decide +kernel
theorem dJ13_bitCount_95d88_35 : decode cJ13_bitCount_95d88 35 = .ok (.lload_n 0, 1) := by decide +kernel
theorem dJ13_bitCount_95d88_36 : decode cJ13_bitCount_95d88 36 = .ok (.bipush 8, 2) := by decide +kernel
theorem dJ13_bitCount_95d88_38 : decode cJ13_bitCount_95d88 38 = .ok (.lushr, 1) := by decide +kernel
theorem dJ13_bitCount_95d88_39 : decode cJ13_bitCount_95d88 39 = .ok (.ladd, 1) := by decide +kernel
theorem dJ13_bitCount_95d88_40 : decode cJ13_bitCount_95d88 40 = .ok (.lstore_n 0, 1) := by decide +kernel
theorem dJ13_bitCount_95d88_41 : decode cJ13_bitCount_95d88 41 = .ok (.lload_n 0, 1) := by decide +kernel
theorem dJ13_bitCount_95d88_42 : decode cJ13_bitCount_95d88 42 = .ok (.lload_n 0, 1) := by decide +kernel
theorem dJ13_bitCount_95d88_43 : decode cJ13_bitCount_95d88 43 = .ok (.bipush 16, 2) := by decide +kernel
theorem dJ13_bitCount_95d88_45 : decode cJ13_bitCount_95d88 45 = .ok (.lushr, 1) := by decide +kernel
theorem dJ13_bitCount_95d88_46 : decode cJ13_bitCount_95d88 46 = .ok (.ladd, 1) := by decide +kernel
theorem dJ13_bitCount_95d88_47 : decode cJ13_bitCount_95d88 47 = .ok (.lstore_n 0, 1) := by decide +kernel
theorem dJ13_bitCount_95d88_48 : decode cJ13_bitCount_95d88 48 = .ok (.lload_n 0, 1) := by decide +kernel
theorem dJ13_bitCount_95d88_49 : decode cJ13_bitCount_95d88 49 = .ok (.lload_n 0, 1) := by decide +kernel
theorem dJ13_bitCount_95d88_50 : decode cJ13_bitCount_95d88 50 = .ok (.bipush 32, 2) := by decide +kernel
theorem dJ13_bitCount_95d88_52 : decode cJ13_bitCount_95d88 52 = .ok (.lushr, 1) := by decide +kernel
theorem dJ13_bitCount_95d88_53 : decode cJ13_bitCount_95d88 53 = .ok (.ladd, 1) := by decide +kernel
theorem dJ13_bitCount_95d88_54 : decode cJ13_bitCount_95d88 54 = .ok (.lstore_n 0, 1) := by decide +kernel
theorem dJ13_bitCount_95d88_55 : decode cJ13_bitCount_95d88 55 = .ok (.lload_n 0, 1) := by decide +kernel
theorem dJ13_bitCount_95d88_56 : decode cJ13_bitCount_95d88 56 = .ok (.l2i, 1) := by decide +kernel
theorem dJ13_bitCount_95d88_57 : decode cJ13_bitCount_95d88 57 = .ok (.bipush 127, 2) := by decide +kernel
theorem dJ13_bitCount_95d88_59 : decode cJ13_bitCount_95d88 59 = .ok (.iand, 1) := by decide +kernel
theorem dJ13_bitCount_95d88_60 : decode cJ13_bitCount_95d88 60 = .ok (.ireturn, 1) := by decide +kernel
theorem dJ9_floorMod_7cf53_0 : decode cJ9_floorMod_7cf53 0 = .ok (.iload_n 0, 1) := by decide +kernel
theorem dJ9_floorMod_7cf53_1 : decode cJ9_floorMod_7cf53 1 = .ok (.iload_n 1, 1) := by decide +kernel
theorem dJ9_floorMod_7cf53_2 : decode cJ9_floorMod_7cf53 2 = .ok (.irem, 1) := by decide +kernel
theorem dJ9_floorMod_7cf53_3 : decode cJ9_floorMod_7cf53 3 = .ok (.istore_n 2, 1) := by decide +kernel
theorem dJ9_floorMod_7cf53_4 : decode cJ9_floorMod_7cf53 4 = .ok (.iload_n 0, 1) := by decide +kernel
theorem dJ9_floorMod_7cf53_5 : decode cJ9_floorMod_7cf53 5 = .ok (.iload_n 1, 1) := by decide +kernel
theorem dJ9_floorMod_7cf53_6 : decode cJ9_floorMod_7cf53 6 = .ok (.ixor, 1) := by decide +kernel
theorem dJ9_floorMod_7cf53_7 : decode cJ9_floorMod_7cf53 7 = .ok (.ifCond .ge 11, 3) := by decide +kernel
theorem dJ9_floorMod_7cf53_10 : decode cJ9_floorMod_7cf53 10 = .ok (.iload_n 2, 1) := by decide +kernel
theorem dJ9_floorMod_7cf53_11 : decode cJ9_floorMod_7cf53 11 = .ok (.ifCond .eq 7, 3) := by decide +kernel
theorem dJ9_floorMod_7cf53_14 : decode cJ9_floorMod_7cf53 14 = .ok (.iload_n 2, 1) := by decide +kernel
theorem dJ9_floorMod_7cf53_15 : decode cJ9_floorMod_7cf53 15 = .ok (.iload_n 1, 1) := by decide +kernel
theorem dJ9_floorMod_7cf53_16 : decode cJ9_floorMod_7cf53 16 = .ok (.iadd, 1) := by decide +kernel
theorem dJ9_floorMod_7cf53_17 : decode cJ9_floorMod_7cf53 17 = .ok (.ireturn, 1) := by decide +kernel
theorem dJ9_floorMod_7cf53_18 : decode cJ9_floorMod_7cf53 18 = .ok (.iload_n 2, 1) := by decide +kernel
theorem dJ9_floorMod_7cf53_19 : decode cJ9_floorMod_7cf53 19 = .ok (.ireturn, 1) := by decide +kernel
theorem dJ9_abs_0f7a4_0 : decode cJ9_abs_0f7a4 0 = .ok (.iload_n 0, 1) := by decide +kernel
theorem dJ9_abs_0f7a4_1 : decode cJ9_abs_0f7a4 1 = .ok (.ifCond .ge 8, 3) := by decide +kernel
theorem dJ9_abs_0f7a4_4 : decode cJ9_abs_0f7a4 4 = .ok (.iload_n 0, 1) := by decide +kernel
theorem dJ9_abs_0f7a4_5 : decode cJ9_abs_0f7a4 5 = .ok (.ineg, 1) := by decide +kernel
theorem dJ9_abs_0f7a4_6 : decode cJ9_abs_0f7a4 6 = .ok (.goto 4, 3) := by decide +kernel
theorem dJ9_abs_0f7a4_9 : decode cJ9_abs_0f7a4 9 = .ok (.iload_n 0, 1) := by decide +kernel
theorem dJ9_abs_0f7a4_10 : decode cJ9_abs_0f7a4 10 = .ok (.ireturn, 1) := by decide +kernel
theorem dJ9_max_7cf53_0 : decode cJ9_max_7cf53 0 = .ok (.iload_n 0, 1) := by decide +kernel
theorem dJ9_max_7cf53_1 : decode cJ9_max_7cf53 1 = .ok (.iload_n 1, 1) := by decide +kernel
theorem dJ9_max_7cf53_2 : decode cJ9_max_7cf53 2 = .ok (.if_icmp .lt 7, 3) := by decide +kernel
theorem dJ9_max_7cf53_5 : decode cJ9_max_7cf53 5 = .ok (.iload_n 0, 1) := by decide +kernel
theorem dJ9_max_7cf53_6 : decode cJ9_max_7cf53 6 = .ok (.goto 4, 3) := by decide +kernel
theorem dJ9_max_7cf53_9 : decode cJ9_max_7cf53 9 = .ok (.iload_n 1, 1) := by decide +kernel
theorem dJ9_max_7cf53_10 : decode cJ9_max_7cf53 10 = .ok (.ireturn, 1) := by decide +kernel
theorem dJ9_min_7cf53_0 : decode cJ9_min_7cf53 0 = .ok (.iload_n 0, 1) := by decide +kernel
theorem dJ9_min_7cf53_1 : decode cJ9_min_7cf53 1 = .ok (.iload_n 1, 1) := by decide +kernel
theorem dJ9_min_7cf53_2 : decode cJ9_min_7cf53 2 = .ok (.if_icmp .gt 7, 3) := by decide +kernel
theorem dJ9_min_7cf53_5 : decode cJ9_min_7cf53 5 = .ok (.iload_n 0, 1) := by decide +kernel
theorem dJ9_min_7cf53_6 : decode cJ9_min_7cf53 6 = .ok (.goto 4, 3) := by decide +kernel
theorem dJ9_min_7cf53_9 : decode cJ9_min_7cf53 9 = .ok (.iload_n 1, 1) := by decide +kernel
theorem dJ9_min_7cf53_10 : decode cJ9_min_7cf53 10 = .ok (.ireturn, 1) := by decide +kernel
theorem dJ7_fill_53178_0 : decode cJ7_fill_53178 0 = .ok (.iconst 0, 1) := by decide +kernel
theorem dJ7_fill_53178_1 : decode cJ7_fill_53178 1 = .ok (.istore_n 2, 1) := by decide +kernel
theorem dJ7_fill_53178_2 : decode cJ7_fill_53178 2 = .ok (.aload_n 0, 1) := by decide +kernel
theorem dJ7_fill_53178_3 : decode cJ7_fill_53178 3 = .ok (.arraylength, 1) := by decide +kernel
theorem dJ7_fill_53178_4 : decode cJ7_fill_53178 4 = .ok (.istore_n 3, 1) := by decide +kernel
theorem dJ7_fill_53178_5 : decode cJ7_fill_53178 5 = .ok (.iload_n 2, 1) := by decide +kernel
theorem dJ7_fill_53178_6 : decode cJ7_fill_53178 6 = .ok (.iload_n 3, 1) := by decide +kernel
theorem dJ7_fill_53178_7 : decode cJ7_fill_53178 7 = .ok (.if_icmp .ge 13, 3) := by decide +kernel
theorem dJ7_fill_53178_10 : decode cJ7_fill_53178 10 = .ok (.aload_n 0, 1) := by decide +kernel
theorem dJ7_fill_53178_11 : decode cJ7_fill_53178 11 = .ok (.iload_n 2, 1) := by decide +kernel
theorem dJ7_fill_53178_12 : decode cJ7_fill_53178 12 = .ok (.iload_n 1, 1) := by decide +kernel
theorem dJ7_fill_53178_13 : decode cJ7_fill_53178 13 = .ok (.iastore, 1) := by decide +kernel
theorem dJ7_fill_53178_14 : decode cJ7_fill_53178 14 = .ok (.iinc 2 1, 3) := by decide +kernel
theorem dJ7_fill_53178_17 : decode cJ7_fill_53178 17 = .ok (.goto (-12), 3) := by decide +kernel
theorem dJ7_fill_53178_20 : decode cJ7_fill_53178 20 = .ok (.return_, 1) := by decide +kernel
set_option maxRecDepth 20000 in
theorem ggL_append_X9_append : GoodIn wsL_append wsX9_append := goodIn_ca (goodIn_ca (goodIn_r _ [7, 8, 9, 10, 6, 11, 12, 13, 14, 15, 16, 17, 18, 19, 20, 21, 22, 23, 24, 25, 26, 27, 28, 29, 30, 31, 32, 33, 34, 35, 36, 37, 38, 39, 40] (by decide +kernel) (by decide +kernel)) (goodIn_sub (fun _ h => List.mem_cons_of_mem _ (List.mem_append_left _ (List.mem_append_right _ h))) (by decide +kernel))) (goodIn_sub (fun _ h => List.mem_cons_of_mem _ (List.mem_append_right _ h)) (by decide +kernel))
set_option maxRecDepth 20000 in
theorem gL_append_X9_append : GoodIn wsL_append (wsV RL 7 RX9 yX9_append wsX9_append) := goodIn_app (goodIn_of _ (by decide +kernel)) ggL_append_X9_append
theorem dL_append_0 : decode cL_append 0 = .ok (.aload_n 2, 1) := by decide +kernel
theorem dL_append_1 : decode cL_append 1 = .ok (.iconst 0, 1) := by decide +kernel
theorem dL_append_2 : decode cL_append 2 = .ok (.aload_n 0, 1) := by decide +kernel
theorem dL_append_3 : decode cL_append 3 = .ok (.iload_n 1, 1) := by decide +kernel
theorem dL_append_4 : decode cL_append 4 = .ok (.invokevirtual 7, 3) := by decide +kernel
theorem dL_append_7 : decode cL_append 7 = .ok (.i2l, 1) := by decide +kernel
theorem dL_append_8 : decode cL_append 8 = .ok (.lastore, 1) := by decide +kernel
theorem dL_append_9 : decode cL_append 9 = .ok (.goto 9, 3) := by decide +kernel
theorem dL_append_12 : decode cL_append 12 = .ok (.astore_n 3, 1) := by decide +kernel
theorem dL_append_13 : decode cL_append 13 = .ok (.iconst 1, 1) := by decide +kernel
theorem dL_append_14 : decode cL_append 14 = .ok (.ireturn, 1) := by decide +kernel
theorem dL_append_15 : decode cL_append 15 = .ok (.astore_n 3, 1) := by decide +kernel
theorem dL_append_16 : decode cL_append 16 = .ok (.iconst 2, 1) := by decide +kernel
theorem dL_append_17 : decode cL_append 17 = .ok (.ireturn, 1) := by decide +kernel
theorem dL_append_18 : decode cL_append 18 = .ok (.iconst 0, 1) := by decide +kernel
theorem dL_append_19 : decode cL_append 19 = .ok (.ireturn, 1) := by decide +kernel
set_option maxRecDepth 20000 in
theorem ggL_load_X9_load : GoodIn wsL_load wsX9_load := goodIn_ca (goodIn_r _ [6, 7, 8, 9, 10, 11, 12, 13, 14, 15, 16, 17, 18, 19, 20, 21, 22, 23, 24, 25, 26, 27, 28, 29, 30, 31, 32, 33, 34, 35, 5, 36, 37, 38, 39, 40, 41, 42, 43, 44, 45, 46, 47, 48, 49, 50, 51, 52, 53, 54, 55, 56, 57, 58, 59, 60, 61, 62, 63, 64, 65, 66, 67, 68, 69, 70, 71, 72, 73, 74, 75, 76, 77, 78, 79, 80, 81, 82, 83, 84, 85, 86, 87, 88, 89, 90, 91, 92, 93, 94, 95, 96, 97, 98, 99, 100, 101, 102, 103, 104, 105, 106, 107, 108, 109, 110, 111, 112, 113, 114, 115, 116, 117, 118, 119, 120, 121, 122, 123, 124, 125, 126, 127, 128, 129, 130, 131, 132, 133, 134, 135, 136, 137, 138, 139, 140, 141, 142, 143, 144, 145, 146, 147, 148, 149, 150, 151, 152, 153, 154, 155, 156, 157, 158, 159, 160, 161, 162, 163, 164, 165, 166, 167, 168, 169, 170, 171, 172, 173, 174, 175, 176, 177, 178, 179, 180, 181, 182, 183, 184, 185, 186, 187, 188, 189, 190, 191, 192, 193, 194, 195, 196, 197, 198, 199, 200, 201, 202, 203] (by decide +kernel) (by decide +kernel)) (goodIn_sub (fun _ h => List.mem_cons_of_mem _ (List.mem_append_right _ h)) (by decide +kernel))
set_option maxRecDepth 20000 in
theorem gL_load_X9_load : GoodIn wsL_load (wsV RL 17 RX9 yX9_load wsX9_load) := goodIn_app (goodIn_of _ (by decide +kernel)) ggL_load_X9_load
theorem dL_load_0 : decode cL_load 0 = .ok (.aload_n 1, 1) := by decide +kernel
theorem dL_load_1 : decode cL_load 1 = .ok (.iconst 0, 1) := by decide +kernel
theorem dL_load_2 : decode cL_load 2 = .ok (.aload_n 0, 1) := by decide +kernel
theorem dL_load_3 : decode cL_load 3 = .ok (.invokevirtual 17, 3) := by decide +kernel
theorem dL_load_6 : decode cL_load 6 = .ok (.i2l, 1) := by decide +kernel
theorem dL_load_7 : decode cL_load 7 = .ok (.lastore, 1) := by decide +kernel
theorem dL_load_8 : decode cL_load 8 = .ok (.goto 6, 3) := by decide +kernel
theorem dL_load_11 : decode cL_load 11 = .ok (.astore_n 2, 1) := by decide +kernel
theorem dL_load_12 : decode cL_load 12 = .ok (.iconst 1, 1) := by decide +kernel
theorem dL_load_13 : decode cL_load 13 = .ok (.ireturn, 1) := by decide +kernel
theorem dL_load_14 : decode cL_load 14 = .ok (.iconst 0, 1) := by decide +kernel
theorem dL_load_15 : decode cL_load 15 = .ok (.ireturn, 1) := by decide +kernel
set_option maxRecDepth 20000 in
theorem ggL_about_X9_about : GoodIn wsL_about wsX9_about := goodIn_ca (goodIn_r _ [6, 7, 8, 9, 5, 10, 11, 12, 13, 14, 15, 16, 17, 18, 19, 20, 21, 22, 23, 24, 25, 26, 27, 28, 29, 30, 31, 32, 33, 34, 35, 36, 37, 38, 39, 40, 41, 42, 43, 44, 45, 46, 47, 48, 49, 50, 51, 52, 53, 54, 55, 56, 57, 58, 59, 60, 61, 62, 63, 64, 65, 66, 67, 68, 69, 70, 71, 72, 73, 74, 75, 76, 77, 78, 79, 80, 81, 82, 83, 84, 85, 86, 87, 88, 89, 90, 91, 92, 93, 94, 95, 96, 97, 98, 99, 100, 101, 102, 103, 104, 105, 106, 107, 108, 109, 110, 111, 112, 113, 114, 115, 116, 117, 118, 119, 120, 121, 122, 123, 124, 125, 126, 127, 128, 129, 130, 131, 132, 133, 134] (by decide +kernel) (by decide +kernel)) (goodIn_sub (fun _ h => List.mem_cons_of_mem _ (List.mem_append_right _ h)) (by decide +kernel))
set_option maxRecDepth 20000 in
theorem gL_about_X9_about : GoodIn wsL_about (wsV RL 21 RX9 yX9_about wsX9_about) := goodIn_app (goodIn_of _ (by decide +kernel)) ggL_about_X9_about
theorem dL_about_0 : decode cL_about 0 = .ok (.aload_n 2, 1) := by decide +kernel
theorem dL_about_1 : decode cL_about 1 = .ok (.iconst 0, 1) := by decide +kernel
theorem dL_about_2 : decode cL_about 2 = .ok (.aload_n 0, 1) := by decide +kernel
theorem dL_about_3 : decode cL_about 3 = .ok (.iload_n 1, 1) := by decide +kernel
theorem dL_about_4 : decode cL_about 4 = .ok (.invokevirtual 21, 3) := by decide +kernel
theorem dL_about_7 : decode cL_about 7 = .ok (.i2l, 1) := by decide +kernel
theorem dL_about_8 : decode cL_about 8 = .ok (.lastore, 1) := by decide +kernel
theorem dL_about_9 : decode cL_about 9 = .ok (.goto 6, 3) := by decide +kernel
theorem dL_about_12 : decode cL_about 12 = .ok (.astore_n 3, 1) := by decide +kernel
theorem dL_about_13 : decode cL_about 13 = .ok (.iconst 1, 1) := by decide +kernel
theorem dL_about_14 : decode cL_about 14 = .ok (.ireturn, 1) := by decide +kernel
theorem dL_about_15 : decode cL_about 15 = .ok (.iconst 0, 1) := by decide +kernel
theorem dL_about_16 : decode cL_about 16 = .ok (.ireturn, 1) := by decide +kernel
set_option maxRecDepth 20000 in
theorem ggL_key_X9_key : GoodIn wsL_key wsX9_key := goodIn_ca (goodIn_ca (goodIn_r _ [7, 8, 9, 10, 11, 6, 12, 13, 14, 15, 16, 17, 18, 19, 20, 21, 22, 23, 24, 25, 26, 27, 28, 29, 30, 31, 32, 33, 34, 35, 36, 37, 38, 39, 40, 41, 42, 43, 44, 45, 46, 47, 48, 49, 50, 51, 52, 53, 54, 55, 56, 57, 58, 59, 60, 61, 62, 63, 64, 65, 66, 67, 68, 69, 70, 71, 72, 73, 74, 75, 76, 77, 78, 79, 80, 81, 82, 83, 84, 85, 86, 87, 88, 89, 90, 91, 92, 93, 94, 95, 96, 97, 98, 99, 100, 101, 102, 103, 104, 105, 106, 107, 108, 109, 110, 111, 112, 113] (by decide +kernel) (by decide +kernel)) (goodIn_sub (fun _ h => List.mem_cons_of_mem _ (List.mem_append_left _ (List.mem_append_right _ h))) (by decide +kernel))) (goodIn_sub (fun _ h => List.mem_cons_of_mem _ (List.mem_append_right _ h)) (by decide +kernel))
set_option maxRecDepth 20000 in
theorem gL_key_X9_key : GoodIn wsL_key (wsV RL 24 RX9 yX9_key wsX9_key) := goodIn_app (goodIn_of _ (by decide +kernel)) ggL_key_X9_key
theorem dL_key_0 : decode cL_key 0 = .ok (.aload 4, 2) := by decide +kernel
theorem dL_key_2 : decode cL_key 2 = .ok (.iconst 0, 1) := by decide +kernel
theorem dL_key_3 : decode cL_key 3 = .ok (.aload_n 0, 1) := by decide +kernel
theorem dL_key_4 : decode cL_key 4 = .ok (.iload_n 1, 1) := by decide +kernel
theorem dL_key_5 : decode cL_key 5 = .ok (.iload_n 2, 1) := by decide +kernel
theorem dL_key_6 : decode cL_key 6 = .ok (.iload_n 3, 1) := by decide +kernel
theorem dL_key_7 : decode cL_key 7 = .ok (.invokevirtual 24, 3) := by decide +kernel
theorem dL_key_10 : decode cL_key 10 = .ok (.i2l, 1) := by decide +kernel
theorem dL_key_11 : decode cL_key 11 = .ok (.lastore, 1) := by decide +kernel
theorem dL_key_12 : decode cL_key 12 = .ok (.goto 11, 3) := by decide +kernel
theorem dL_key_15 : decode cL_key 15 = .ok (.astore 5, 2) := by decide +kernel
theorem dL_key_17 : decode cL_key 17 = .ok (.iconst 1, 1) := by decide +kernel
theorem dL_key_18 : decode cL_key 18 = .ok (.ireturn, 1) := by decide +kernel
theorem dL_key_19 : decode cL_key 19 = .ok (.astore 5, 2) := by decide +kernel
theorem dL_key_21 : decode cL_key 21 = .ok (.iconst 2, 1) := by decide +kernel
theorem dL_key_22 : decode cL_key 22 = .ok (.ireturn, 1) := by decide +kernel
theorem dL_key_23 : decode cL_key 23 = .ok (.iconst 0, 1) := by decide +kernel
theorem dL_key_24 : decode cL_key 24 = .ok (.ireturn, 1) := by decide +kernel
set_option maxRecDepth 20000 in
theorem ggL_record_X9_record : GoodIn wsL_record wsX9_record := goodIn_ca (goodIn_ca (goodIn_r _ [7, 8, 9, 10, 11, 12, 13, 14, 15, 16, 6, 17, 18, 19, 20, 21, 22, 23, 24, 25, 26, 27, 28, 29, 30, 31, 32, 33, 34, 35, 36, 37, 38, 39, 40, 41, 42, 43, 44, 45, 46, 47, 48, 49, 50, 51, 52, 53, 54, 55, 56, 57, 58, 59, 60, 61, 62, 63, 64, 65, 66, 67, 68, 69, 70, 71, 72, 73, 74, 75, 76, 77, 78, 79, 80, 81, 82, 83, 84, 85, 86, 87, 88] (by decide +kernel) (by decide +kernel)) (goodIn_sub (fun _ h => List.mem_cons_of_mem _ (List.mem_append_left _ (List.mem_append_right _ h))) (by decide +kernel))) (goodIn_sub (fun _ h => List.mem_cons_of_mem _ (List.mem_append_right _ h)) (by decide +kernel))
set_option maxRecDepth 20000 in
theorem gL_record_X9_record : GoodIn wsL_record (wsV RL 30 RX9 yX9_record wsX9_record) := goodIn_app (goodIn_of _ (by decide +kernel)) ggL_record_X9_record
theorem dL_record_0 : decode cL_record 0 = .ok (.aload_n 3, 1) := by decide +kernel
theorem dL_record_1 : decode cL_record 1 = .ok (.iconst 0, 1) := by decide +kernel
theorem dL_record_2 : decode cL_record 2 = .ok (.aload_n 0, 1) := by decide +kernel
theorem dL_record_3 : decode cL_record 3 = .ok (.iload_n 1, 1) := by decide +kernel
theorem dL_record_4 : decode cL_record 4 = .ok (.iload_n 2, 1) := by decide +kernel
theorem dL_record_5 : decode cL_record 5 = .ok (.invokevirtual 30, 3) := by decide +kernel
theorem dL_record_8 : decode cL_record 8 = .ok (.i2l, 1) := by decide +kernel
theorem dL_record_9 : decode cL_record 9 = .ok (.lastore, 1) := by decide +kernel
theorem dL_record_10 : decode cL_record 10 = .ok (.goto 11, 3) := by decide +kernel
theorem dL_record_13 : decode cL_record 13 = .ok (.astore 4, 2) := by decide +kernel
theorem dL_record_15 : decode cL_record 15 = .ok (.iconst 1, 1) := by decide +kernel
theorem dL_record_16 : decode cL_record 16 = .ok (.ireturn, 1) := by decide +kernel
theorem dL_record_17 : decode cL_record 17 = .ok (.astore 4, 2) := by decide +kernel
theorem dL_record_19 : decode cL_record 19 = .ok (.iconst 2, 1) := by decide +kernel
theorem dL_record_20 : decode cL_record 20 = .ok (.ireturn, 1) := by decide +kernel
theorem dL_record_21 : decode cL_record 21 = .ok (.iconst 0, 1) := by decide +kernel
theorem dL_record_22 : decode cL_record 22 = .ok (.ireturn, 1) := by decide +kernel
set_option maxRecDepth 20000 in
theorem ggL_device_X9_device : GoodIn wsL_device wsX9_device := goodIn_ca (goodIn_ca (goodIn_r _ [7, 8, 9, 10, 11, 12, 13, 14, 15, 16, 6, 17, 18, 19, 20, 21, 22, 23, 24, 25, 26, 27, 28, 29, 30, 31, 32, 33, 34, 35, 36, 37, 38, 39, 40, 41, 42, 43, 44, 45, 46, 47, 48, 49, 50, 51, 52, 53, 54, 55, 56, 57, 58, 59, 60, 61, 62, 63, 64, 65, 66, 67, 68, 69, 70, 71, 72, 73, 74, 75, 76, 77, 78, 79, 80, 81, 82, 83, 84, 85, 86, 87, 88, 89, 90, 91, 92, 93, 94, 95, 96, 97, 98, 99, 100, 101, 102, 103, 104, 105, 106, 107, 108, 109, 110, 111, 112, 113, 114, 115, 116, 117, 118, 119] (by decide +kernel) (by decide +kernel)) (goodIn_sub (fun _ h => List.mem_cons_of_mem _ (List.mem_append_left _ (List.mem_append_right _ h))) (by decide +kernel))) (goodIn_sub (fun _ h => List.mem_cons_of_mem _ (List.mem_append_right _ h)) (by decide +kernel))
set_option maxRecDepth 20000 in
theorem gL_device_X9_device : GoodIn wsL_device (wsV RL 34 RX9 yX9_device wsX9_device) := goodIn_app (goodIn_of _ (by decide +kernel)) ggL_device_X9_device
theorem dL_device_0 : decode cL_device 0 = .ok (.aload_n 3, 1) := by decide +kernel
theorem dL_device_1 : decode cL_device 1 = .ok (.iconst 0, 1) := by decide +kernel
theorem dL_device_2 : decode cL_device 2 = .ok (.aload_n 0, 1) := by decide +kernel
theorem dL_device_3 : decode cL_device 3 = .ok (.iload_n 1, 1) := by decide +kernel
theorem dL_device_4 : decode cL_device 4 = .ok (.iload_n 2, 1) := by decide +kernel
theorem dL_device_5 : decode cL_device 5 = .ok (.invokevirtual 34, 3) := by decide +kernel
theorem dL_device_8 : decode cL_device 8 = .ok (.i2l, 1) := by decide +kernel
theorem dL_device_9 : decode cL_device 9 = .ok (.lastore, 1) := by decide +kernel
theorem dL_device_10 : decode cL_device 10 = .ok (.goto 11, 3) := by decide +kernel
theorem dL_device_13 : decode cL_device 13 = .ok (.astore 4, 2) := by decide +kernel
theorem dL_device_15 : decode cL_device 15 = .ok (.iconst 1, 1) := by decide +kernel
theorem dL_device_16 : decode cL_device 16 = .ok (.ireturn, 1) := by decide +kernel
theorem dL_device_17 : decode cL_device 17 = .ok (.astore 4, 2) := by decide +kernel
theorem dL_device_19 : decode cL_device 19 = .ok (.iconst 2, 1) := by decide +kernel
theorem dL_device_20 : decode cL_device 20 = .ok (.ireturn, 1) := by decide +kernel
theorem dL_device_21 : decode cL_device 21 = .ok (.iconst 0, 1) := by decide +kernel
theorem dL_device_22 : decode cL_device 22 = .ok (.ireturn, 1) := by decide +kernel
set_option maxRecDepth 20000 in
theorem ggL_trace_X9_trace : GoodIn wsL_trace wsX9_trace := goodIn_ca (goodIn_ca (goodIn_r _ [7, 8, 9, 10, 11, 6, 12, 13, 14, 15, 16, 17, 18, 19, 20, 21, 22, 23, 24, 25, 26, 27, 28, 29, 30, 31, 32, 33, 34, 35, 36, 37, 38, 39, 40, 41, 42, 43, 44, 45, 46, 47, 48, 49, 50, 51, 52, 53, 54, 55, 56, 57, 58, 59, 60, 61, 62, 63, 64, 65, 66, 67, 68, 69, 70, 71, 72] (by decide +kernel) (by decide +kernel)) (goodIn_sub (fun _ h => List.mem_cons_of_mem _ (List.mem_append_left _ (List.mem_append_right _ h))) (by decide +kernel))) (goodIn_sub (fun _ h => List.mem_cons_of_mem _ (List.mem_append_right _ h)) (by decide +kernel))
set_option maxRecDepth 20000 in
theorem gL_trace_X9_trace : GoodIn wsL_trace (wsV RL 37 RX9 yX9_trace wsX9_trace) := goodIn_app (goodIn_of _ (by decide +kernel)) ggL_trace_X9_trace
theorem dL_trace_0 : decode cL_trace 0 = .ok (.aload 4, 2) := by decide +kernel
theorem dL_trace_2 : decode cL_trace 2 = .ok (.iconst 0, 1) := by decide +kernel
theorem dL_trace_3 : decode cL_trace 3 = .ok (.aload_n 0, 1) := by decide +kernel
theorem dL_trace_4 : decode cL_trace 4 = .ok (.iload_n 1, 1) := by decide +kernel
theorem dL_trace_5 : decode cL_trace 5 = .ok (.iload_n 2, 1) := by decide +kernel
theorem dL_trace_6 : decode cL_trace 6 = .ok (.iload_n 3, 1) := by decide +kernel
theorem dL_trace_7 : decode cL_trace 7 = .ok (.invokevirtual 37, 3) := by decide +kernel
theorem dL_trace_10 : decode cL_trace 10 = .ok (.i2l, 1) := by decide +kernel
theorem dL_trace_11 : decode cL_trace 11 = .ok (.lastore, 1) := by decide +kernel
theorem dL_trace_12 : decode cL_trace 12 = .ok (.goto 11, 3) := by decide +kernel
theorem dL_trace_15 : decode cL_trace 15 = .ok (.astore 5, 2) := by decide +kernel
theorem dL_trace_17 : decode cL_trace 17 = .ok (.iconst 1, 1) := by decide +kernel
theorem dL_trace_18 : decode cL_trace 18 = .ok (.ireturn, 1) := by decide +kernel
theorem dL_trace_19 : decode cL_trace 19 = .ok (.astore 5, 2) := by decide +kernel
theorem dL_trace_21 : decode cL_trace 21 = .ok (.iconst 2, 1) := by decide +kernel
theorem dL_trace_22 : decode cL_trace 22 = .ok (.ireturn, 1) := by decide +kernel
theorem dL_trace_23 : decode cL_trace 23 = .ok (.iconst 0, 1) := by decide +kernel
theorem dL_trace_24 : decode cL_trace 24 = .ok (.ireturn, 1) := by decide +kernel
set_option maxRecDepth 20000 in
theorem ggL_wentWrong_X9_wentWrong : GoodIn wsL_wentWrong wsX9_wentWrong := goodIn_ca (goodIn_r _ [6, 7, 8, 9, 10, 5, 11, 12, 13, 14, 15, 16, 17, 18, 19, 20, 21, 22, 23, 24, 25, 26, 27, 28, 29, 30, 31, 32, 33, 34, 35, 36, 37, 38, 39, 40, 41, 42, 43, 44, 45, 46, 47, 48, 49, 50, 51, 52, 53, 54, 55, 56, 57, 58, 59, 60, 61, 62, 63, 64, 65, 66, 67] (by decide +kernel) (by decide +kernel)) (goodIn_sub (fun _ h => List.mem_cons_of_mem _ (List.mem_append_right _ h)) (by decide +kernel))
set_option maxRecDepth 20000 in
theorem gL_wentWrong_X9_wentWrong : GoodIn wsL_wentWrong (wsV RL 40 RX9 yX9_wentWrong wsX9_wentWrong) := goodIn_app (goodIn_of _ (by decide +kernel)) ggL_wentWrong_X9_wentWrong
theorem dL_wentWrong_0 : decode cL_wentWrong 0 = .ok (.aload_n 3, 1) := by decide +kernel
theorem dL_wentWrong_1 : decode cL_wentWrong 1 = .ok (.iconst 0, 1) := by decide +kernel
theorem dL_wentWrong_2 : decode cL_wentWrong 2 = .ok (.aload_n 0, 1) := by decide +kernel
theorem dL_wentWrong_3 : decode cL_wentWrong 3 = .ok (.iload_n 1, 1) := by decide +kernel
theorem dL_wentWrong_4 : decode cL_wentWrong 4 = .ok (.iload_n 2, 1) := by decide +kernel
theorem dL_wentWrong_5 : decode cL_wentWrong 5 = .ok (.invokevirtual 40, 3) := by decide +kernel
theorem dL_wentWrong_8 : decode cL_wentWrong 8 = .ok (.i2l, 1) := by decide +kernel
theorem dL_wentWrong_9 : decode cL_wentWrong 9 = .ok (.lastore, 1) := by decide +kernel
theorem dL_wentWrong_10 : decode cL_wentWrong 10 = .ok (.goto 7, 3) := by decide +kernel
theorem dL_wentWrong_13 : decode cL_wentWrong 13 = .ok (.astore 4, 2) := by decide +kernel
theorem dL_wentWrong_15 : decode cL_wentWrong 15 = .ok (.iconst 1, 1) := by decide +kernel
theorem dL_wentWrong_16 : decode cL_wentWrong 16 = .ok (.ireturn, 1) := by decide +kernel
theorem dL_wentWrong_17 : decode cL_wentWrong 17 = .ok (.iconst 0, 1) := by decide +kernel
theorem dL_wentWrong_18 : decode cL_wentWrong 18 = .ok (.ireturn, 1) := by decide +kernel
set_option maxRecDepth 20000 in
theorem ggL_common_X9_common : GoodIn wsL_common wsX9_common := goodIn_ca (goodIn_r _ [6, 7, 8, 9, 10, 5, 11, 12, 13, 14, 15, 16, 17, 18, 19, 20, 21, 22, 23, 24, 25, 26, 27, 28, 29, 30, 31, 32, 33, 34, 35, 36, 37, 38, 39, 40, 41, 42, 43, 44, 45, 46, 47, 48, 49, 50, 51, 52, 53, 54, 55, 56, 57, 58, 59, 60, 61, 62, 63, 64, 65, 66] (by decide +kernel) (by decide +kernel)) (goodIn_sub (fun _ h => List.mem_cons_of_mem _ (List.mem_append_right _ h)) (by decide +kernel))
set_option maxRecDepth 20000 in
theorem gL_common_X9_common : GoodIn wsL_common (wsV RL 43 RX9 yX9_common wsX9_common) := goodIn_app (goodIn_of _ (by decide +kernel)) ggL_common_X9_common
theorem dL_common_0 : decode cL_common 0 = .ok (.aload 5, 2) := by decide +kernel
theorem dL_common_2 : decode cL_common 2 = .ok (.iconst 0, 1) := by decide +kernel
theorem dL_common_3 : decode cL_common 3 = .ok (.aload_n 0, 1) := by decide +kernel
theorem dL_common_4 : decode cL_common 4 = .ok (.iload_n 1, 1) := by decide +kernel
theorem dL_common_5 : decode cL_common 5 = .ok (.iload_n 2, 1) := by decide +kernel
theorem dL_common_6 : decode cL_common 6 = .ok (.iload_n 3, 1) := by decide +kernel
theorem dL_common_7 : decode cL_common 7 = .ok (.iload 4, 2) := by decide +kernel
theorem dL_common_9 : decode cL_common 9 = .ok (.invokevirtual 43, 3) := by decide +kernel
theorem dL_common_12 : decode cL_common 12 = .ok (.i2l, 1) := by decide +kernel
theorem dL_common_13 : decode cL_common 13 = .ok (.lastore, 1) := by decide +kernel
theorem dL_common_14 : decode cL_common 14 = .ok (.goto 7, 3) := by decide +kernel
theorem dL_common_17 : decode cL_common 17 = .ok (.astore 6, 2) := by decide +kernel
theorem dL_common_19 : decode cL_common 19 = .ok (.iconst 1, 1) := by decide +kernel
theorem dL_common_20 : decode cL_common 20 = .ok (.ireturn, 1) := by decide +kernel
theorem dL_common_21 : decode cL_common 21 = .ok (.iconst 0, 1) := by decide +kernel
theorem dL_common_22 : decode cL_common 22 = .ok (.ireturn, 1) := by decide +kernel
set_option maxRecDepth 20000 in
theorem ggL_accepted_X9_accepted : GoodIn wsL_accepted wsX9_accepted := goodIn_ca (goodIn_r _ [6, 7, 8, 9, 10, 5, 11, 12, 13, 14, 15, 16, 17, 18, 19, 20, 21, 22, 23, 24, 25, 26, 27, 28, 29, 30, 31, 32, 33, 34, 35, 36, 37, 38, 39, 40, 41, 42, 43, 44, 45, 46, 47, 48, 49, 50, 51, 52, 53, 54, 55, 56, 57, 58, 59, 60, 61, 62, 63, 64, 65, 66, 67, 68, 69, 70, 71, 72, 73, 74, 75, 76, 77, 78, 79, 80, 81, 82, 83, 84, 85, 86, 87, 88, 89, 90, 91, 92, 93, 94, 95, 96, 97, 98, 99, 100, 101, 102] (by decide +kernel) (by decide +kernel)) (goodIn_sub (fun _ h => List.mem_cons_of_mem _ (List.mem_append_right _ h)) (by decide +kernel))
set_option maxRecDepth 20000 in
theorem gL_accepted_X9_accepted : GoodIn wsL_accepted (wsV RL 47 RX9 yX9_accepted wsX9_accepted) := goodIn_app (goodIn_of _ (by decide +kernel)) ggL_accepted_X9_accepted
theorem dL_accepted_0 : decode cL_accepted 0 = .ok (.aload_n 3, 1) := by decide +kernel
theorem dL_accepted_1 : decode cL_accepted 1 = .ok (.iconst 0, 1) := by decide +kernel
theorem dL_accepted_2 : decode cL_accepted 2 = .ok (.aload_n 0, 1) := by decide +kernel
theorem dL_accepted_3 : decode cL_accepted 3 = .ok (.iload_n 1, 1) := by decide +kernel
theorem dL_accepted_4 : decode cL_accepted 4 = .ok (.iload_n 2, 1) := by decide +kernel
theorem dL_accepted_5 : decode cL_accepted 5 = .ok (.invokevirtual 47, 3) := by decide +kernel
theorem dL_accepted_8 : decode cL_accepted 8 = .ok (.i2l, 1) := by decide +kernel
theorem dL_accepted_9 : decode cL_accepted 9 = .ok (.lastore, 1) := by decide +kernel
theorem dL_accepted_10 : decode cL_accepted 10 = .ok (.goto 7, 3) := by decide +kernel
theorem dL_accepted_13 : decode cL_accepted 13 = .ok (.astore 4, 2) := by decide +kernel
theorem dL_accepted_15 : decode cL_accepted 15 = .ok (.iconst 1, 1) := by decide +kernel
theorem dL_accepted_16 : decode cL_accepted 16 = .ok (.ireturn, 1) := by decide +kernel
theorem dL_accepted_17 : decode cL_accepted 17 = .ok (.iconst 0, 1) := by decide +kernel
theorem dL_accepted_18 : decode cL_accepted 18 = .ok (.ireturn, 1) := by decide +kernel
set_option maxRecDepth 20000 in
theorem ggL_enter_X9_enter : GoodIn wsL_enter wsX9_enter := goodIn_ca (goodIn_ca (goodIn_ca (goodIn_r _ [8, 9, 10, 11, 12, 13, 7, 14, 15, 16, 17, 18, 19, 20, 21, 22, 23, 24, 25, 26, 27, 28, 29, 30, 31, 32, 33, 34, 35, 36, 37, 38, 39, 40, 41, 42, 43, 44, 45, 46, 47, 48, 49, 50, 51, 52, 53, 54, 55, 56, 57, 58, 59, 60, 61, 62, 63, 64, 65, 66, 67, 68, 69, 70, 71, 72, 73, 74, 75, 76, 77, 78, 79, 80, 81, 82, 83, 84, 85, 86, 87, 88, 89, 90, 91, 92, 93, 94, 95, 96, 97, 98, 99, 100, 101, 102, 103, 104, 105, 106, 107, 108, 109, 110, 111, 112, 113, 114, 115, 116, 117, 118, 119, 120, 121, 122, 123, 124, 125, 126, 127, 128, 129, 130, 131, 132, 133, 134, 135, 136, 137, 138, 139] (by decide +kernel) (by decide +kernel)) (goodIn_sub (fun _ h => List.mem_cons_of_mem _ (List.mem_append_left _ (List.mem_append_left _ (List.mem_append_right _ h)))) (by decide +kernel))) (goodIn_sub (fun _ h => List.mem_cons_of_mem _ (List.mem_append_left _ (List.mem_append_right _ h))) (by decide +kernel))) (goodIn_sub (fun _ h => List.mem_cons_of_mem _ (List.mem_append_right _ h)) (by decide +kernel))
set_option maxRecDepth 20000 in
theorem gL_enter_X9_enter : GoodIn wsL_enter (wsV RL 50 RX9 yX9_enter wsX9_enter) := goodIn_app (goodIn_of _ (by decide +kernel)) ggL_enter_X9_enter
theorem dL_enter_0 : decode cL_enter 0 = .ok (.aload 4, 2) := by decide +kernel
theorem dL_enter_2 : decode cL_enter 2 = .ok (.iconst 0, 1) := by decide +kernel
theorem dL_enter_3 : decode cL_enter 3 = .ok (.aload_n 0, 1) := by decide +kernel
theorem dL_enter_4 : decode cL_enter 4 = .ok (.iload_n 1, 1) := by decide +kernel
theorem dL_enter_5 : decode cL_enter 5 = .ok (.iload_n 2, 1) := by decide +kernel
theorem dL_enter_6 : decode cL_enter 6 = .ok (.iload_n 3, 1) := by decide +kernel
theorem dL_enter_7 : decode cL_enter 7 = .ok (.invokevirtual 50, 3) := by decide +kernel
theorem dL_enter_10 : decode cL_enter 10 = .ok (.i2l, 1) := by decide +kernel
theorem dL_enter_11 : decode cL_enter 11 = .ok (.lastore, 1) := by decide +kernel
theorem dL_enter_12 : decode cL_enter 12 = .ok (.goto 15, 3) := by decide +kernel
theorem dL_enter_15 : decode cL_enter 15 = .ok (.astore 5, 2) := by decide +kernel
theorem dL_enter_17 : decode cL_enter 17 = .ok (.iconst 1, 1) := by decide +kernel
theorem dL_enter_18 : decode cL_enter 18 = .ok (.ireturn, 1) := by decide +kernel
theorem dL_enter_19 : decode cL_enter 19 = .ok (.astore 5, 2) := by decide +kernel
theorem dL_enter_21 : decode cL_enter 21 = .ok (.iconst 2, 1) := by decide +kernel
theorem dL_enter_22 : decode cL_enter 22 = .ok (.ireturn, 1) := by decide +kernel
theorem dL_enter_23 : decode cL_enter 23 = .ok (.astore 5, 2) := by decide +kernel
theorem dL_enter_25 : decode cL_enter 25 = .ok (.iconst 3, 1) := by decide +kernel
theorem dL_enter_26 : decode cL_enter 26 = .ok (.ireturn, 1) := by decide +kernel
theorem dL_enter_27 : decode cL_enter 27 = .ok (.iconst 0, 1) := by decide +kernel
theorem dL_enter_28 : decode cL_enter 28 = .ok (.ireturn, 1) := by decide +kernel
set_option maxRecDepth 20000 in
theorem ggL_teach_X9_teach : GoodIn wsL_teach wsX9_teach := goodIn_ca (goodIn_ca (goodIn_ca (goodIn_r _ [8, 9, 10, 11, 12, 13, 7, 14, 15, 16, 17, 18, 19, 20, 21, 22, 23, 24, 25, 26, 27, 28, 29, 30, 31, 32, 33, 34, 35, 36, 37, 38, 39, 40, 41, 42, 43, 44, 45, 46, 47, 48, 49, 50, 51, 52, 53, 54, 55, 56, 57, 58, 59, 60, 61, 62, 63, 64, 65, 66, 67, 68, 69, 70, 71, 72, 73, 74, 75, 76, 77, 78, 79, 80, 81, 82, 83, 84, 85, 86, 87, 88, 89, 90, 91, 92, 93, 94, 95, 96, 97, 98, 99, 100, 101, 102, 103, 104, 105, 106, 107, 108, 109, 110, 111, 112, 113, 114, 115, 116, 117, 118, 119, 120, 121, 122, 123, 124, 125, 126, 127, 128, 129, 130, 131, 132, 133, 134, 135, 136, 137, 138, 139, 140, 141, 142, 143, 144, 145, 146, 147, 148, 149, 150, 151, 152, 153, 154, 155, 156, 157, 158, 159, 160, 161, 162, 163, 164, 165, 166, 167, 168, 169] (by decide +kernel) (by decide +kernel)) (goodIn_sub (fun _ h => List.mem_cons_of_mem _ (List.mem_append_left _ (List.mem_append_left _ (List.mem_append_right _ h)))) (by decide +kernel))) (goodIn_sub (fun _ h => List.mem_cons_of_mem _ (List.mem_append_left _ (List.mem_append_right _ h))) (by decide +kernel))) (goodIn_sub (fun _ h => List.mem_cons_of_mem _ (List.mem_append_right _ h)) (by decide +kernel))
set_option maxRecDepth 20000 in
theorem gL_teach_X9_teach : GoodIn wsL_teach (wsV RL 53 RX9 yX9_teach wsX9_teach) := goodIn_app (goodIn_of _ (by decide +kernel)) ggL_teach_X9_teach
theorem dL_teach_0 : decode cL_teach 0 = .ok (.aload 5, 2) := by decide +kernel
theorem dL_teach_2 : decode cL_teach 2 = .ok (.iconst 0, 1) := by decide +kernel
theorem dL_teach_3 : decode cL_teach 3 = .ok (.aload_n 0, 1) := by decide +kernel
theorem dL_teach_4 : decode cL_teach 4 = .ok (.iload_n 1, 1) := by decide +kernel
theorem dL_teach_5 : decode cL_teach 5 = .ok (.iload_n 2, 1) := by decide +kernel
theorem dL_teach_6 : decode cL_teach 6 = .ok (.iload_n 3, 1) := by decide +kernel
theorem dL_teach_7 : decode cL_teach 7 = .ok (.iload 4, 2) := by decide +kernel
theorem dL_teach_9 : decode cL_teach 9 = .ok (.invokevirtual 53, 3) := by decide +kernel
theorem dL_teach_12 : decode cL_teach 12 = .ok (.i2l, 1) := by decide +kernel
theorem dL_teach_13 : decode cL_teach 13 = .ok (.lastore, 1) := by decide +kernel
theorem dL_teach_14 : decode cL_teach 14 = .ok (.goto 15, 3) := by decide +kernel
theorem dL_teach_17 : decode cL_teach 17 = .ok (.astore 6, 2) := by decide +kernel
theorem dL_teach_19 : decode cL_teach 19 = .ok (.iconst 1, 1) := by decide +kernel
theorem dL_teach_20 : decode cL_teach 20 = .ok (.ireturn, 1) := by decide +kernel
theorem dL_teach_21 : decode cL_teach 21 = .ok (.astore 6, 2) := by decide +kernel
theorem dL_teach_23 : decode cL_teach 23 = .ok (.iconst 2, 1) := by decide +kernel
theorem dL_teach_24 : decode cL_teach 24 = .ok (.ireturn, 1) := by decide +kernel
theorem dL_teach_25 : decode cL_teach 25 = .ok (.astore 6, 2) := by decide +kernel
theorem dL_teach_27 : decode cL_teach 27 = .ok (.iconst 3, 1) := by decide +kernel
theorem dL_teach_28 : decode cL_teach 28 = .ok (.ireturn, 1) := by decide +kernel
theorem dL_teach_29 : decode cL_teach 29 = .ok (.iconst 0, 1) := by decide +kernel
theorem dL_teach_30 : decode cL_teach 30 = .ok (.ireturn, 1) := by decide +kernel
set_option maxRecDepth 20000 in
theorem ggL_erase_X9_erase : GoodIn wsL_erase wsX9_erase := goodIn_ca (goodIn_r _ [6, 7, 8, 9, 10, 11, 5, 12, 13, 14, 15, 16, 17, 18, 19, 20, 21, 22, 23, 24, 25, 26, 27, 28, 29, 30, 31, 32, 33, 34, 35, 36, 37, 38, 39, 40, 41, 42, 43, 44, 45, 46, 47, 48, 49, 50, 51, 52, 53, 54, 55, 56, 57, 58, 59, 60, 61, 62, 63, 64, 65, 66, 67, 68, 69, 70, 71, 72, 73, 74, 75, 76, 77, 78, 79, 80, 81, 82, 83, 84, 85, 86, 87, 88, 89, 90, 91, 92, 93, 94, 95, 96, 97, 98, 99, 100, 101, 102, 103, 104, 105, 106, 107, 108, 109, 110, 111, 112, 113, 114, 115, 116, 117, 118, 119, 120, 121, 122, 123, 124, 125, 126, 127, 128] (by decide +kernel) (by decide +kernel)) (goodIn_sub (fun _ h => List.mem_cons_of_mem _ (List.mem_append_right _ h)) (by decide +kernel))
set_option maxRecDepth 20000 in
theorem gL_erase_X9_erase : GoodIn wsL_erase (wsV RL 56 RX9 yX9_erase wsX9_erase) := goodIn_app (goodIn_of _ (by decide +kernel)) ggL_erase_X9_erase
theorem dL_erase_0 : decode cL_erase 0 = .ok (.aload_n 3, 1) := by decide +kernel
theorem dL_erase_1 : decode cL_erase 1 = .ok (.iconst 0, 1) := by decide +kernel
theorem dL_erase_2 : decode cL_erase 2 = .ok (.aload_n 0, 1) := by decide +kernel
theorem dL_erase_3 : decode cL_erase 3 = .ok (.iload_n 1, 1) := by decide +kernel
theorem dL_erase_4 : decode cL_erase 4 = .ok (.iload_n 2, 1) := by decide +kernel
theorem dL_erase_5 : decode cL_erase 5 = .ok (.invokevirtual 56, 3) := by decide +kernel
theorem dL_erase_8 : decode cL_erase 8 = .ok (.i2l, 1) := by decide +kernel
theorem dL_erase_9 : decode cL_erase 9 = .ok (.lastore, 1) := by decide +kernel
theorem dL_erase_10 : decode cL_erase 10 = .ok (.goto 7, 3) := by decide +kernel
theorem dL_erase_13 : decode cL_erase 13 = .ok (.astore 4, 2) := by decide +kernel
theorem dL_erase_15 : decode cL_erase 15 = .ok (.iconst 1, 1) := by decide +kernel
theorem dL_erase_16 : decode cL_erase 16 = .ok (.ireturn, 1) := by decide +kernel
theorem dL_erase_17 : decode cL_erase 17 = .ok (.iconst 0, 1) := by decide +kernel
theorem dL_erase_18 : decode cL_erase 18 = .ok (.ireturn, 1) := by decide +kernel
set_option maxRecDepth 20000 in
theorem ggL_press_X9_press : GoodIn wsL_press wsX9_press := goodIn_ca (goodIn_ca (goodIn_r _ [7, 8, 9, 10, 11, 12, 6, 13, 14, 15, 16, 17, 18, 19, 20, 21, 22, 23, 24, 25, 26, 27, 28, 29, 30, 31, 32, 33, 34, 35, 36, 37, 38, 39, 40, 41, 42, 43, 44, 45, 46, 47, 48, 49, 50, 51, 52, 53, 54, 55, 56, 57, 58, 59, 60, 61, 62, 63, 64, 65, 66, 67, 68, 69, 70, 71, 72, 73, 74, 75, 76, 77, 78, 79, 80, 81, 82, 83, 84, 85, 86, 87, 88, 89, 90, 91, 92, 93, 94, 95, 96, 97, 98, 99, 100, 101, 102, 103, 104, 105, 106, 107, 108, 109, 110, 111, 112, 113, 114, 115, 116, 117, 118, 119, 120, 121, 122, 123, 124, 125, 126, 127, 128, 129, 130, 131, 132, 133, 134, 135, 136, 137, 138, 139, 140, 141, 142, 143, 144, 145, 146, 147, 148, 149, 150, 151, 152, 153, 154, 155, 156, 157, 158, 159, 160, 161] (by decide +kernel) (by decide +kernel)) (goodIn_sub (fun _ h => List.mem_cons_of_mem _ (List.mem_append_left _ (List.mem_append_right _ h))) (by decide +kernel))) (goodIn_sub (fun _ h => List.mem_cons_of_mem _ (List.mem_append_right _ h)) (by decide +kernel))
set_option maxRecDepth 20000 in
theorem gL_press_X9_press : GoodIn wsL_press (wsV RL 59 RX9 yX9_press wsX9_press) := goodIn_app (goodIn_of _ (by decide +kernel)) ggL_press_X9_press
theorem dL_press_0 : decode cL_press 0 = .ok (.aload_n 3, 1) := by decide +kernel
theorem dL_press_1 : decode cL_press 1 = .ok (.iconst 0, 1) := by decide +kernel
theorem dL_press_2 : decode cL_press 2 = .ok (.aload_n 0, 1) := by decide +kernel
theorem dL_press_3 : decode cL_press 3 = .ok (.iload_n 1, 1) := by decide +kernel
theorem dL_press_4 : decode cL_press 4 = .ok (.iload_n 2, 1) := by decide +kernel
theorem dL_press_5 : decode cL_press 5 = .ok (.invokevirtual 59, 3) := by decide +kernel
theorem dL_press_8 : decode cL_press 8 = .ok (.i2l, 1) := by decide +kernel
theorem dL_press_9 : decode cL_press 9 = .ok (.lastore, 1) := by decide +kernel
theorem dL_press_10 : decode cL_press 10 = .ok (.goto 11, 3) := by decide +kernel
theorem dL_press_13 : decode cL_press 13 = .ok (.astore 4, 2) := by decide +kernel
theorem dL_press_15 : decode cL_press 15 = .ok (.iconst 1, 1) := by decide +kernel
theorem dL_press_16 : decode cL_press 16 = .ok (.ireturn, 1) := by decide +kernel
theorem dL_press_17 : decode cL_press 17 = .ok (.astore 4, 2) := by decide +kernel
theorem dL_press_19 : decode cL_press 19 = .ok (.iconst 2, 1) := by decide +kernel
theorem dL_press_20 : decode cL_press 20 = .ok (.ireturn, 1) := by decide +kernel
theorem dL_press_21 : decode cL_press 21 = .ok (.iconst 0, 1) := by decide +kernel
theorem dL_press_22 : decode cL_press 22 = .ok (.ireturn, 1) := by decide +kernel
set_option maxRecDepth 20000 in
theorem ggL_addDevice_X9_addDevice : GoodIn wsL_addDevice wsX9_addDevice := goodIn_ca (goodIn_ca (goodIn_ca (goodIn_r _ [8, 9, 10, 11, 12, 13, 14, 15, 16, 17, 18, 7, 19, 20, 21, 22, 23, 24, 25, 26, 27, 28, 29, 30, 31, 32, 33, 34, 35, 36, 37, 38, 39, 40, 41, 42, 43, 44, 45, 46, 47, 48, 49, 50, 51, 52, 53, 54, 55, 56, 57, 58, 59, 60, 61, 62, 63, 64, 65, 66, 67, 68, 69, 70, 71, 72, 73, 74, 75, 76, 77, 78, 79, 80, 81, 82, 83, 84, 85, 86, 87, 88, 89, 90, 91, 92, 93, 94, 95, 96, 97, 98, 99, 100, 101, 102, 103, 104, 105, 106, 107, 108, 109, 110, 111, 112, 113, 114, 115, 116, 117, 118, 119, 120, 121, 122, 123, 124, 125, 126, 127, 128, 129] (by decide +kernel) (by decide +kernel)) (goodIn_sub (fun _ h => List.mem_cons_of_mem _ (List.mem_append_left _ (List.mem_append_left _ (List.mem_append_right _ h)))) (by decide +kernel))) (goodIn_sub (fun _ h => List.mem_cons_of_mem _ (List.mem_append_left _ (List.mem_append_right _ h))) (by decide +kernel))) (goodIn_sub (fun _ h => List.mem_cons_of_mem _ (List.mem_append_right _ h)) (by decide +kernel))
set_option maxRecDepth 20000 in
theorem gL_addDevice_X9_addDevice : GoodIn wsL_addDevice (wsV RL 62 RX9 yX9_addDevice wsX9_addDevice) := goodIn_app (goodIn_of _ (by decide +kernel)) ggL_addDevice_X9_addDevice
theorem dL_addDevice_0 : decode cL_addDevice 0 = .ok (.aload 4, 2) := by decide +kernel
theorem dL_addDevice_2 : decode cL_addDevice 2 = .ok (.iconst 0, 1) := by decide +kernel
theorem dL_addDevice_3 : decode cL_addDevice 3 = .ok (.aload_n 0, 1) := by decide +kernel
theorem dL_addDevice_4 : decode cL_addDevice 4 = .ok (.iload_n 1, 1) := by decide +kernel
theorem dL_addDevice_5 : decode cL_addDevice 5 = .ok (.iload_n 2, 1) := by decide +kernel
theorem dL_addDevice_6 : decode cL_addDevice 6 = .ok (.iload_n 3, 1) := by decide +kernel
theorem dL_addDevice_7 : decode cL_addDevice 7 = .ok (.invokevirtual 62, 3) := by decide +kernel
theorem dL_addDevice_10 : decode cL_addDevice 10 = .ok (.i2l, 1) := by decide +kernel
theorem dL_addDevice_11 : decode cL_addDevice 11 = .ok (.lastore, 1) := by decide +kernel
theorem dL_addDevice_12 : decode cL_addDevice 12 = .ok (.goto 15, 3) := by decide +kernel
theorem dL_addDevice_15 : decode cL_addDevice 15 = .ok (.astore 5, 2) := by decide +kernel
theorem dL_addDevice_17 : decode cL_addDevice 17 = .ok (.iconst 1, 1) := by decide +kernel
theorem dL_addDevice_18 : decode cL_addDevice 18 = .ok (.ireturn, 1) := by decide +kernel
theorem dL_addDevice_19 : decode cL_addDevice 19 = .ok (.astore 5, 2) := by decide +kernel
theorem dL_addDevice_21 : decode cL_addDevice 21 = .ok (.iconst 2, 1) := by decide +kernel
theorem dL_addDevice_22 : decode cL_addDevice 22 = .ok (.ireturn, 1) := by decide +kernel
theorem dL_addDevice_23 : decode cL_addDevice 23 = .ok (.astore 5, 2) := by decide +kernel
theorem dL_addDevice_25 : decode cL_addDevice 25 = .ok (.iconst 3, 1) := by decide +kernel
theorem dL_addDevice_26 : decode cL_addDevice 26 = .ok (.ireturn, 1) := by decide +kernel
theorem dL_addDevice_27 : decode cL_addDevice 27 = .ok (.iconst 0, 1) := by decide +kernel
theorem dL_addDevice_28 : decode cL_addDevice 28 = .ok (.ireturn, 1) := by decide +kernel
set_option maxRecDepth 20000 in
theorem ggL_setTolerance_X9_setTolerance : GoodIn wsL_setTolerance wsX9_setTolerance := goodIn_ca (goodIn_ca (goodIn_r _ [7, 8, 9, 10, 11, 12, 13, 14, 15, 16, 17, 6, 18, 19, 20, 21, 22, 23, 24, 25, 26, 27, 28, 29, 30, 31, 32, 33, 34, 35, 36, 37, 38, 39, 40, 41, 42, 43, 44, 45, 46, 47, 48, 49, 50, 51, 52, 53, 54, 55, 56, 57, 58, 59, 60, 61, 62, 63, 64, 65, 66, 67, 68, 69, 70, 71, 72, 73, 74, 75, 76, 77, 78, 79, 80, 81, 82, 83, 84, 85, 86, 87, 88, 89, 90, 91, 92, 93, 94, 95, 96, 97, 98, 99, 100, 101, 102, 103, 104, 105, 106, 107, 108, 109, 110, 111, 112, 113, 114, 115, 116, 117, 118, 119, 120] (by decide +kernel) (by decide +kernel)) (goodIn_sub (fun _ h => List.mem_cons_of_mem _ (List.mem_append_left _ (List.mem_append_right _ h))) (by decide +kernel))) (goodIn_sub (fun _ h => List.mem_cons_of_mem _ (List.mem_append_right _ h)) (by decide +kernel))
set_option maxRecDepth 20000 in
theorem gL_setTolerance_X9_setTolerance : GoodIn wsL_setTolerance (wsV RL 65 RX9 yX9_setTolerance wsX9_setTolerance) := goodIn_app (goodIn_of _ (by decide +kernel)) ggL_setTolerance_X9_setTolerance
theorem dL_setTolerance_0 : decode cL_setTolerance 0 = .ok (.aload_n 3, 1) := by decide +kernel
theorem dL_setTolerance_1 : decode cL_setTolerance 1 = .ok (.iconst 0, 1) := by decide +kernel
theorem dL_setTolerance_2 : decode cL_setTolerance 2 = .ok (.aload_n 0, 1) := by decide +kernel
theorem dL_setTolerance_3 : decode cL_setTolerance 3 = .ok (.iload_n 1, 1) := by decide +kernel
theorem dL_setTolerance_4 : decode cL_setTolerance 4 = .ok (.iload_n 2, 1) := by decide +kernel
theorem dL_setTolerance_5 : decode cL_setTolerance 5 = .ok (.invokevirtual 65, 3) := by decide +kernel
theorem dL_setTolerance_8 : decode cL_setTolerance 8 = .ok (.i2l, 1) := by decide +kernel
theorem dL_setTolerance_9 : decode cL_setTolerance 9 = .ok (.lastore, 1) := by decide +kernel
theorem dL_setTolerance_10 : decode cL_setTolerance 10 = .ok (.goto 11, 3) := by decide +kernel
theorem dL_setTolerance_13 : decode cL_setTolerance 13 = .ok (.astore 4, 2) := by decide +kernel
theorem dL_setTolerance_15 : decode cL_setTolerance 15 = .ok (.iconst 1, 1) := by decide +kernel
theorem dL_setTolerance_16 : decode cL_setTolerance 16 = .ok (.ireturn, 1) := by decide +kernel
theorem dL_setTolerance_17 : decode cL_setTolerance 17 = .ok (.astore 4, 2) := by decide +kernel
theorem dL_setTolerance_19 : decode cL_setTolerance 19 = .ok (.iconst 2, 1) := by decide +kernel
theorem dL_setTolerance_20 : decode cL_setTolerance 20 = .ok (.ireturn, 1) := by decide +kernel
theorem dL_setTolerance_21 : decode cL_setTolerance 21 = .ok (.iconst 0, 1) := by decide +kernel
theorem dL_setTolerance_22 : decode cL_setTolerance 22 = .ok (.ireturn, 1) := by decide +kernel
set_option maxRecDepth 20000 in
theorem ggL_set_X9_set : GoodIn wsL_set wsX9_set := goodIn_ca (goodIn_r _ [6, 7, 8, 9, 10, 5, 11, 12, 13, 14, 15, 16, 17, 18, 19, 20, 21, 22, 23, 24, 25, 26, 27, 28, 29, 30, 31, 32, 33, 34, 35, 36, 37, 38, 39, 40, 41, 42, 43, 44, 45, 46, 47, 48, 49, 50, 51, 52, 53, 54, 55, 56, 57, 58, 59, 60, 61, 62, 63, 64, 65, 66, 67, 68, 69, 70, 71, 72, 73, 74, 75, 76, 77, 78, 79, 80, 81, 82, 83, 84, 85, 86, 87, 88, 89, 90, 91, 92, 93, 94, 95, 96, 97, 98, 99, 100, 101, 102, 103, 104, 105] (by decide +kernel) (by decide +kernel)) (goodIn_sub (fun _ h => List.mem_cons_of_mem _ (List.mem_append_right _ h)) (by decide +kernel))
set_option maxRecDepth 20000 in
theorem gL_set_X9_set : GoodIn wsL_set (wsV RL 68 RX9 yX9_set wsX9_set) := goodIn_app (goodIn_of _ (by decide +kernel)) ggL_set_X9_set
theorem dL_set_0 : decode cL_set 0 = .ok (.aload_n 3, 1) := by decide +kernel
theorem dL_set_1 : decode cL_set 1 = .ok (.iconst 0, 1) := by decide +kernel
theorem dL_set_2 : decode cL_set 2 = .ok (.aload_n 0, 1) := by decide +kernel
theorem dL_set_3 : decode cL_set 3 = .ok (.iload_n 1, 1) := by decide +kernel
theorem dL_set_4 : decode cL_set 4 = .ok (.iload_n 2, 1) := by decide +kernel
theorem dL_set_5 : decode cL_set 5 = .ok (.invokevirtual 68, 3) := by decide +kernel
theorem dL_set_8 : decode cL_set 8 = .ok (.i2l, 1) := by decide +kernel
theorem dL_set_9 : decode cL_set 9 = .ok (.lastore, 1) := by decide +kernel
theorem dL_set_10 : decode cL_set 10 = .ok (.goto 7, 3) := by decide +kernel
theorem dL_set_13 : decode cL_set 13 = .ok (.astore 4, 2) := by decide +kernel
theorem dL_set_15 : decode cL_set 15 = .ok (.iconst 1, 1) := by decide +kernel
theorem dL_set_16 : decode cL_set 16 = .ok (.ireturn, 1) := by decide +kernel
theorem dL_set_17 : decode cL_set 17 = .ok (.iconst 0, 1) := by decide +kernel
theorem dL_set_18 : decode cL_set 18 = .ok (.ireturn, 1) := by decide +kernel
set_option maxRecDepth 20000 in
theorem ggL_undo_X9_undo : GoodIn wsL_undo wsX9_undo := goodIn_ca (goodIn_r _ [6, 7, 8, 9, 10, 11, 12, 13, 14, 15, 16, 5, 17, 18, 19, 20, 21, 22, 23, 24, 25, 26, 27, 28, 29, 30, 31, 32, 33, 34, 35, 36, 37, 38, 39, 40, 41, 42, 43, 44, 45, 46, 47, 48, 49, 50, 51, 52, 53, 54, 55, 56, 57, 58, 59, 60, 61, 62, 63, 64, 65, 66, 67, 68, 69, 70, 71, 72, 73, 74, 75, 76, 77, 78, 79, 80, 81, 82, 83, 84, 85, 86, 87, 88, 89, 90, 91, 92, 93, 94, 95, 96, 97, 98, 99] (by decide +kernel) (by decide +kernel)) (goodIn_sub (fun _ h => List.mem_cons_of_mem _ (List.mem_append_right _ h)) (by decide +kernel))
set_option maxRecDepth 20000 in
theorem gL_undo_X9_undo : GoodIn wsL_undo (wsV RL 71 RX9 yX9_undo wsX9_undo) := goodIn_app (goodIn_of _ (by decide +kernel)) ggL_undo_X9_undo
theorem dL_undo_0 : decode cL_undo 0 = .ok (.aload_n 1, 1) := by decide +kernel
theorem dL_undo_1 : decode cL_undo 1 = .ok (.iconst 0, 1) := by decide +kernel
theorem dL_undo_2 : decode cL_undo 2 = .ok (.aload_n 0, 1) := by decide +kernel
theorem dL_undo_3 : decode cL_undo 3 = .ok (.invokevirtual 71, 3) := by decide +kernel
theorem dL_undo_6 : decode cL_undo 6 = .ok (.i2l, 1) := by decide +kernel
theorem dL_undo_7 : decode cL_undo 7 = .ok (.lastore, 1) := by decide +kernel
theorem dL_undo_8 : decode cL_undo 8 = .ok (.goto 6, 3) := by decide +kernel
theorem dL_undo_11 : decode cL_undo 11 = .ok (.astore_n 2, 1) := by decide +kernel
theorem dL_undo_12 : decode cL_undo 12 = .ok (.iconst 1, 1) := by decide +kernel
theorem dL_undo_13 : decode cL_undo 13 = .ok (.ireturn, 1) := by decide +kernel
theorem dL_undo_14 : decode cL_undo 14 = .ok (.iconst 0, 1) := by decide +kernel
theorem dL_undo_15 : decode cL_undo 15 = .ok (.ireturn, 1) := by decide +kernel
set_option maxRecDepth 20000 in
theorem ggL_wouldBe_X9_wouldBe : GoodIn wsL_wouldBe wsX9_wouldBe := goodIn_ca (goodIn_r _ [6, 7, 8, 9, 10, 5, 11, 12, 13, 14, 15, 16, 17, 18, 19, 20, 21, 22, 23, 24, 25, 26, 27, 28, 29, 30, 31, 32, 33, 34, 35, 36, 37, 38, 39, 40, 41, 42, 43, 44, 45, 46, 47, 48, 49, 50, 51, 52, 53, 54, 55, 56, 57, 58, 59, 60, 61, 62, 63, 64, 65, 66, 67, 68, 69, 70, 71, 72, 73, 74, 75, 76, 77, 78, 79, 80, 81, 82, 83, 84, 85, 86, 87, 88, 89, 90, 91, 92, 93, 94, 95, 96] (by decide +kernel) (by decide +kernel)) (goodIn_sub (fun _ h => List.mem_cons_of_mem _ (List.mem_append_right _ h)) (by decide +kernel))
set_option maxRecDepth 20000 in
theorem gL_wouldBe_X9_wouldBe : GoodIn wsL_wouldBe (wsV RL 74 RX9 yX9_wouldBe wsX9_wouldBe) := goodIn_app (goodIn_of _ (by decide +kernel)) ggL_wouldBe_X9_wouldBe
theorem dL_wouldBe_0 : decode cL_wouldBe 0 = .ok (.aload 4, 2) := by decide +kernel
theorem dL_wouldBe_2 : decode cL_wouldBe 2 = .ok (.iconst 0, 1) := by decide +kernel
theorem dL_wouldBe_3 : decode cL_wouldBe 3 = .ok (.aload_n 0, 1) := by decide +kernel
theorem dL_wouldBe_4 : decode cL_wouldBe 4 = .ok (.iload_n 1, 1) := by decide +kernel
theorem dL_wouldBe_5 : decode cL_wouldBe 5 = .ok (.iload_n 2, 1) := by decide +kernel
theorem dL_wouldBe_6 : decode cL_wouldBe 6 = .ok (.iload_n 3, 1) := by decide +kernel
theorem dL_wouldBe_7 : decode cL_wouldBe 7 = .ok (.invokevirtual 74, 3) := by decide +kernel
theorem dL_wouldBe_10 : decode cL_wouldBe 10 = .ok (.i2l, 1) := by decide +kernel
theorem dL_wouldBe_11 : decode cL_wouldBe 11 = .ok (.lastore, 1) := by decide +kernel
theorem dL_wouldBe_12 : decode cL_wouldBe 12 = .ok (.goto 7, 3) := by decide +kernel
theorem dL_wouldBe_15 : decode cL_wouldBe 15 = .ok (.astore 5, 2) := by decide +kernel
theorem dL_wouldBe_17 : decode cL_wouldBe 17 = .ok (.iconst 1, 1) := by decide +kernel
theorem dL_wouldBe_18 : decode cL_wouldBe 18 = .ok (.ireturn, 1) := by decide +kernel
theorem dL_wouldBe_19 : decode cL_wouldBe 19 = .ok (.iconst 0, 1) := by decide +kernel
theorem dL_wouldBe_20 : decode cL_wouldBe 20 = .ok (.ireturn, 1) := by decide +kernel
set_option maxRecDepth 20000 in
theorem ggL_handed_X9_handed : GoodIn wsL_handed wsX9_handed := goodIn_ca (goodIn_r _ [6, 7, 8, 9, 10, 5, 11, 12, 13, 14, 15, 16, 17, 18, 19, 20, 21, 22, 23, 24, 25, 26, 27, 28, 29, 30, 31, 32, 33, 34, 35, 36, 37, 38, 39, 40, 41, 42, 43, 44, 45, 46, 47, 48, 49, 50, 51, 52, 53, 54, 55, 56, 57, 58, 59, 60, 61, 62, 63, 64, 65, 66, 67, 68, 69, 70, 71, 72, 73, 74, 75, 76, 77, 78, 79, 80, 81, 82, 83, 84, 85, 86, 87, 88, 89, 90, 91, 92] (by decide +kernel) (by decide +kernel)) (goodIn_sub (fun _ h => List.mem_cons_of_mem _ (List.mem_append_right _ h)) (by decide +kernel))
set_option maxRecDepth 20000 in
theorem gL_handed_X9_handed : GoodIn wsL_handed (wsV RL 77 RX9 yX9_handed wsX9_handed) := goodIn_app (goodIn_of _ (by decide +kernel)) ggL_handed_X9_handed
theorem dL_handed_0 : decode cL_handed 0 = .ok (.aload 4, 2) := by decide +kernel
theorem dL_handed_2 : decode cL_handed 2 = .ok (.iconst 0, 1) := by decide +kernel
theorem dL_handed_3 : decode cL_handed 3 = .ok (.aload_n 0, 1) := by decide +kernel
theorem dL_handed_4 : decode cL_handed 4 = .ok (.iload_n 1, 1) := by decide +kernel
theorem dL_handed_5 : decode cL_handed 5 = .ok (.iload_n 2, 1) := by decide +kernel
theorem dL_handed_6 : decode cL_handed 6 = .ok (.iload_n 3, 1) := by decide +kernel
theorem dL_handed_7 : decode cL_handed 7 = .ok (.invokevirtual 77, 3) := by decide +kernel
theorem dL_handed_10 : decode cL_handed 10 = .ok (.i2l, 1) := by decide +kernel
theorem dL_handed_11 : decode cL_handed 11 = .ok (.lastore, 1) := by decide +kernel
theorem dL_handed_12 : decode cL_handed 12 = .ok (.goto 7, 3) := by decide +kernel
theorem dL_handed_15 : decode cL_handed 15 = .ok (.astore 5, 2) := by decide +kernel
theorem dL_handed_17 : decode cL_handed 17 = .ok (.iconst 1, 1) := by decide +kernel
theorem dL_handed_18 : decode cL_handed 18 = .ok (.ireturn, 1) := by decide +kernel
theorem dL_handed_19 : decode cL_handed 19 = .ok (.iconst 0, 1) := by decide +kernel
theorem dL_handed_20 : decode cL_handed 20 = .ok (.ireturn, 1) := by decide +kernel
set_option maxRecDepth 20000 in
theorem ggL_bestTeacher_X9_bestTeacher : GoodIn wsL_bestTeacher wsX9_bestTeacher := goodIn_ca (goodIn_r _ [6, 7, 8, 9, 10, 11, 12, 13, 14, 15, 5, 16, 17, 18, 19, 20, 21, 22, 23, 24, 25, 26, 27, 28, 29, 30, 31, 32, 33, 34, 35, 36, 37, 38, 39, 40, 41, 42, 43, 44, 45, 46, 47, 48, 49, 50, 51, 52, 53, 54, 55, 56, 57, 58, 59, 60, 61, 62, 63, 64, 65, 66, 67, 68, 69, 70, 71, 72, 73, 74, 75, 76, 77, 78, 79, 80, 81, 82, 83, 84, 85, 86, 87, 88, 89, 90, 91, 92, 93, 94, 95, 96, 97, 98, 99, 100, 101, 102, 103, 104, 105, 106, 107, 108, 109, 110, 111, 112, 113, 114, 115, 116, 117, 118, 119, 120, 121] (by decide +kernel) (by decide +kernel)) (goodIn_sub (fun _ h => List.mem_cons_of_mem _ (List.mem_append_right _ h)) (by decide +kernel))
set_option maxRecDepth 20000 in
theorem gL_bestTeacher_X9_bestTeacher : GoodIn wsL_bestTeacher (wsV RL 80 RX9 yX9_bestTeacher wsX9_bestTeacher) := goodIn_app (goodIn_of _ (by decide +kernel)) ggL_bestTeacher_X9_bestTeacher
theorem dL_bestTeacher_0 : decode cL_bestTeacher 0 = .ok (.aload_n 3, 1) := by decide +kernel
theorem dL_bestTeacher_1 : decode cL_bestTeacher 1 = .ok (.iconst 0, 1) := by decide +kernel
theorem dL_bestTeacher_2 : decode cL_bestTeacher 2 = .ok (.aload_n 0, 1) := by decide +kernel
theorem dL_bestTeacher_3 : decode cL_bestTeacher 3 = .ok (.iload_n 1, 1) := by decide +kernel
theorem dL_bestTeacher_4 : decode cL_bestTeacher 4 = .ok (.iload_n 2, 1) := by decide +kernel
theorem dL_bestTeacher_5 : decode cL_bestTeacher 5 = .ok (.invokevirtual 80, 3) := by decide +kernel
theorem dL_bestTeacher_8 : decode cL_bestTeacher 8 = .ok (.i2l, 1) := by decide +kernel
theorem dL_bestTeacher_9 : decode cL_bestTeacher 9 = .ok (.lastore, 1) := by decide +kernel
theorem dL_bestTeacher_10 : decode cL_bestTeacher 10 = .ok (.goto 7, 3) := by decide +kernel
theorem dL_bestTeacher_13 : decode cL_bestTeacher 13 = .ok (.astore 4, 2) := by decide +kernel
theorem dL_bestTeacher_15 : decode cL_bestTeacher 15 = .ok (.iconst 1, 1) := by decide +kernel
theorem dL_bestTeacher_16 : decode cL_bestTeacher 16 = .ok (.ireturn, 1) := by decide +kernel
theorem dL_bestTeacher_17 : decode cL_bestTeacher 17 = .ok (.iconst 0, 1) := by decide +kernel
theorem dL_bestTeacher_18 : decode cL_bestTeacher 18 = .ok (.ireturn, 1) := by decide +kernel
set_option maxRecDepth 20000 in
theorem ggL_leastTolerance_X9_leastTolerance : GoodIn wsL_leastTolerance wsX9_leastTolerance := goodIn_ca (goodIn_r _ [6, 7, 8, 9, 10, 11, 12, 13, 14, 15, 5, 16, 17, 18, 19, 20, 21, 22, 23, 24, 25, 26, 27, 28, 29, 30, 31, 32, 33, 34, 35, 36, 37, 38, 39, 40, 41, 42, 43, 44, 45, 46, 47, 48, 49, 50, 51, 52, 53, 54, 55, 56, 57, 58, 59, 60, 61, 62, 63, 64, 65, 66, 67, 68, 69, 70, 71, 72, 73, 74, 75, 76, 77, 78, 79, 80, 81, 82, 83, 84, 85, 86, 87, 88, 89, 90, 91, 92, 93, 94, 95, 96, 97, 98, 99, 100, 101, 102, 103, 104, 105] (by decide +kernel) (by decide +kernel)) (goodIn_sub (fun _ h => List.mem_cons_of_mem _ (List.mem_append_right _ h)) (by decide +kernel))
set_option maxRecDepth 20000 in
theorem gL_leastTolerance_X9_leastTolerance : GoodIn wsL_leastTolerance (wsV RL 83 RX9 yX9_leastTolerance wsX9_leastTolerance) := goodIn_app (goodIn_of _ (by decide +kernel)) ggL_leastTolerance_X9_leastTolerance
theorem dL_leastTolerance_0 : decode cL_leastTolerance 0 = .ok (.aload_n 2, 1) := by decide +kernel
theorem dL_leastTolerance_1 : decode cL_leastTolerance 1 = .ok (.iconst 0, 1) := by decide +kernel
theorem dL_leastTolerance_2 : decode cL_leastTolerance 2 = .ok (.aload_n 0, 1) := by decide +kernel
theorem dL_leastTolerance_3 : decode cL_leastTolerance 3 = .ok (.iload_n 1, 1) := by decide +kernel
theorem dL_leastTolerance_4 : decode cL_leastTolerance 4 = .ok (.invokevirtual 83, 3) := by decide +kernel
theorem dL_leastTolerance_7 : decode cL_leastTolerance 7 = .ok (.i2l, 1) := by decide +kernel
theorem dL_leastTolerance_8 : decode cL_leastTolerance 8 = .ok (.lastore, 1) := by decide +kernel
theorem dL_leastTolerance_9 : decode cL_leastTolerance 9 = .ok (.goto 6, 3) := by decide +kernel
theorem dL_leastTolerance_12 : decode cL_leastTolerance 12 = .ok (.astore_n 3, 1) := by decide +kernel
theorem dL_leastTolerance_13 : decode cL_leastTolerance 13 = .ok (.iconst 1, 1) := by decide +kernel
theorem dL_leastTolerance_14 : decode cL_leastTolerance 14 = .ok (.ireturn, 1) := by decide +kernel
theorem dL_leastTolerance_15 : decode cL_leastTolerance 15 = .ok (.iconst 0, 1) := by decide +kernel
theorem dL_leastTolerance_16 : decode cL_leastTolerance 16 = .ok (.ireturn, 1) := by decide +kernel
set_option maxRecDepth 20000 in
theorem ggL_runScript_X9_runScript : GoodIn wsL_runScript wsX9_runScript := goodIn_ca (goodIn_r _ [6, 7, 8, 9, 10, 5, 11, 12, 13, 14, 15, 16, 17, 18, 19, 20, 21, 22, 23, 24, 25, 26, 27, 28, 29, 30, 31, 32, 33, 34, 35, 36, 37, 38, 39, 40, 41, 42, 43, 44, 45, 46, 47, 48, 49, 50, 51, 52, 53, 54, 55, 56, 57, 58, 59, 60, 61, 62, 63, 64, 65, 66, 67, 68, 69, 70, 71, 72, 73, 74, 75, 76, 77, 78, 79, 80, 81, 82, 83, 84, 85, 86, 87, 88, 89, 90, 91, 92, 93, 94, 95, 96, 97, 98, 99, 100, 101, 102, 103, 104, 105, 106, 107, 108, 109, 110, 111, 112, 113, 114, 115, 116, 117, 118, 119, 120, 121, 122, 123, 124, 125, 126, 127, 128, 129, 130, 131, 132, 133, 134, 135, 136, 137, 138, 139, 140, 141, 142, 143, 144, 145, 146, 147, 148, 149, 150, 151, 152, 153, 154, 155, 156, 157, 158, 159, 160, 161, 162, 163, 164, 165, 166, 167, 168, 169, 170, 171, 172, 173, 174, 175, 176, 177, 178, 179, 180, 181, 182, 183, 184, 185, 186, 187, 188, 189, 190, 191, 192, 193, 194, 195, 196, 197, 198, 199, 200, 201, 202, 203, 204, 205, 206, 207, 208, 209, 210, 211, 212, 213, 214, 215, 216, 217, 218, 219, 220, 221, 222, 223, 224, 225, 226, 227, 228, 229, 230, 231, 232, 233, 234, 235, 236, 237, 238, 239, 240, 241, 242, 243, 244, 245, 246, 247, 248, 249, 250, 251, 252, 253] (by decide +kernel) (by decide +kernel)) (goodIn_sub (fun _ h => List.mem_cons_of_mem _ (List.mem_append_right _ h)) (by decide +kernel))
set_option maxRecDepth 20000 in
theorem gL_runScript_X9_runScript : GoodIn wsL_runScript (wsV RL 86 RX9 yX9_runScript wsX9_runScript) := goodIn_app (goodIn_of _ (by decide +kernel)) ggL_runScript_X9_runScript
theorem dL_runScript_0 : decode cL_runScript 0 = .ok (.aload 4, 2) := by decide +kernel
theorem dL_runScript_2 : decode cL_runScript 2 = .ok (.iconst 0, 1) := by decide +kernel
theorem dL_runScript_3 : decode cL_runScript 3 = .ok (.aload_n 0, 1) := by decide +kernel
theorem dL_runScript_4 : decode cL_runScript 4 = .ok (.iload_n 1, 1) := by decide +kernel
theorem dL_runScript_5 : decode cL_runScript 5 = .ok (.lload_n 2, 1) := by decide +kernel
theorem dL_runScript_6 : decode cL_runScript 6 = .ok (.invokevirtual 86, 3) := by decide +kernel
theorem dL_runScript_9 : decode cL_runScript 9 = .ok (.i2l, 1) := by decide +kernel
theorem dL_runScript_10 : decode cL_runScript 10 = .ok (.lastore, 1) := by decide +kernel
theorem dL_runScript_11 : decode cL_runScript 11 = .ok (.goto 7, 3) := by decide +kernel
theorem dL_runScript_14 : decode cL_runScript 14 = .ok (.astore 5, 2) := by decide +kernel
theorem dL_runScript_16 : decode cL_runScript 16 = .ok (.iconst 1, 1) := by decide +kernel
theorem dL_runScript_17 : decode cL_runScript 17 = .ok (.ireturn, 1) := by decide +kernel
theorem dL_runScript_18 : decode cL_runScript 18 = .ok (.iconst 0, 1) := by decide +kernel
theorem dL_runScript_19 : decode cL_runScript 19 = .ok (.ireturn, 1) := by decide +kernel
set_option maxRecDepth 20000 in
theorem ggL_simulate_X9_simulate : GoodIn wsL_simulate wsX9_simulate := goodIn_ca (goodIn_ca (goodIn_r _ [7, 8, 9, 10, 11, 6, 12, 13, 14, 15, 16, 17, 18, 19, 20, 21, 22, 23, 24, 25, 26, 27, 28, 29, 30, 31, 32, 33, 34, 35, 36, 37, 38, 39, 40, 41, 42, 43, 44, 45, 46, 47, 48, 49, 50, 51, 52, 53, 54, 55, 56, 57, 58, 59, 60, 61, 62, 63, 64, 65, 66, 67, 68, 69, 70, 71, 72, 73, 74, 75, 76, 77, 78, 79, 80, 81, 82, 83, 84, 85, 86, 87, 88, 89, 90, 91, 92, 93, 94, 95, 96, 97, 98, 99, 100, 101] (by decide +kernel) (by decide +kernel)) (goodIn_sub (fun _ h => List.mem_cons_of_mem _ (List.mem_append_left _ (List.mem_append_right _ h))) (by decide +kernel))) (goodIn_sub (fun _ h => List.mem_cons_of_mem _ (List.mem_append_right _ h)) (by decide +kernel))
set_option maxRecDepth 20000 in
theorem gL_simulate_X9_simulate : GoodIn wsL_simulate (wsV RL 90 RX9 yX9_simulate wsX9_simulate) := goodIn_app (goodIn_of _ (by decide +kernel)) ggL_simulate_X9_simulate
theorem dL_simulate_0 : decode cL_simulate 0 = .ok (.aload 6, 2) := by decide +kernel
theorem dL_simulate_2 : decode cL_simulate 2 = .ok (.iconst 0, 1) := by decide +kernel
theorem dL_simulate_3 : decode cL_simulate 3 = .ok (.aload_n 0, 1) := by decide +kernel
theorem dL_simulate_4 : decode cL_simulate 4 = .ok (.iload_n 1, 1) := by decide +kernel
theorem dL_simulate_5 : decode cL_simulate 5 = .ok (.iload_n 2, 1) := by decide +kernel
theorem dL_simulate_6 : decode cL_simulate 6 = .ok (.lload_n 3, 1) := by decide +kernel
theorem dL_simulate_7 : decode cL_simulate 7 = .ok (.iload 5, 2) := by decide +kernel
theorem dL_simulate_9 : decode cL_simulate 9 = .ok (.invokevirtual 90, 3) := by decide +kernel
theorem dL_simulate_12 : decode cL_simulate 12 = .ok (.i2l, 1) := by decide +kernel
theorem dL_simulate_13 : decode cL_simulate 13 = .ok (.lastore, 1) := by decide +kernel
theorem dL_simulate_14 : decode cL_simulate 14 = .ok (.goto 11, 3) := by decide +kernel
theorem dL_simulate_17 : decode cL_simulate 17 = .ok (.astore 7, 2) := by decide +kernel
theorem dL_simulate_19 : decode cL_simulate 19 = .ok (.iconst 1, 1) := by decide +kernel
theorem dL_simulate_20 : decode cL_simulate 20 = .ok (.ireturn, 1) := by decide +kernel
theorem dL_simulate_21 : decode cL_simulate 21 = .ok (.astore 7, 2) := by decide +kernel
theorem dL_simulate_23 : decode cL_simulate 23 = .ok (.iconst 2, 1) := by decide +kernel
theorem dL_simulate_24 : decode cL_simulate 24 = .ok (.ireturn, 1) := by decide +kernel
theorem dL_simulate_25 : decode cL_simulate 25 = .ok (.iconst 0, 1) := by decide +kernel
theorem dL_simulate_26 : decode cL_simulate 26 = .ok (.ireturn, 1) := by decide +kernel
set_option maxRecDepth 20000 in
theorem ggL_save_X9_save : GoodIn wsL_save wsX9_save := goodIn_ca (goodIn_r _ [6, 7, 8, 9, 10, 11, 12, 13, 14, 15, 5, 16, 17, 18, 19, 20, 21, 22, 23, 24, 25, 26, 27, 28, 29, 30, 31, 32, 33, 34, 35, 36, 37, 38, 39, 40, 41, 42, 43, 44, 45, 46, 47, 48, 49, 50, 51, 52, 53, 54, 55, 56, 57, 58, 59, 60, 61, 62, 63, 64, 65, 66, 67, 68, 69, 70, 71, 72, 73, 74, 75, 76, 77, 78, 79, 80, 81, 82, 83, 84, 85, 86, 87, 88, 89, 90, 91, 92, 93, 94, 95, 96, 97, 98] (by decide +kernel) (by decide +kernel)) (goodIn_sub (fun _ h => List.mem_cons_of_mem _ (List.mem_append_right _ h)) (by decide +kernel))
set_option maxRecDepth 20000 in
theorem gL_save_X9_save : GoodIn wsL_save (wsV RL 94 RX9 yX9_save wsX9_save) := goodIn_app (goodIn_of _ (by decide +kernel)) ggL_save_X9_save
theorem dL_save_0 : decode cL_save 0 = .ok (.aload_n 2, 1) := by decide +kernel
theorem dL_save_1 : decode cL_save 1 = .ok (.iconst 0, 1) := by decide +kernel
theorem dL_save_2 : decode cL_save 2 = .ok (.aload_n 0, 1) := by decide +kernel
theorem dL_save_3 : decode cL_save 3 = .ok (.iload_n 1, 1) := by decide +kernel
theorem dL_save_4 : decode cL_save 4 = .ok (.invokevirtual 94, 3) := by decide +kernel
theorem dL_save_7 : decode cL_save 7 = .ok (.i2l, 1) := by decide +kernel
theorem dL_save_8 : decode cL_save 8 = .ok (.lastore, 1) := by decide +kernel
theorem dL_save_9 : decode cL_save 9 = .ok (.goto 6, 3) := by decide +kernel
theorem dL_save_12 : decode cL_save 12 = .ok (.astore_n 3, 1) := by decide +kernel
theorem dL_save_13 : decode cL_save 13 = .ok (.iconst 1, 1) := by decide +kernel
theorem dL_save_14 : decode cL_save 14 = .ok (.ireturn, 1) := by decide +kernel
theorem dL_save_15 : decode cL_save 15 = .ok (.iconst 0, 1) := by decide +kernel
theorem dL_save_16 : decode cL_save 16 = .ok (.ireturn, 1) := by decide +kernel
set_option maxRecDepth 20000 in
theorem ggL_restore_X9_restore : GoodIn wsL_restore wsX9_restore := goodIn_ca (goodIn_ca (goodIn_r _ [7, 8, 9, 10, 11, 12, 13, 14, 15, 16, 17, 6, 18, 19, 20, 21, 22, 23, 24, 25, 26, 27, 28, 29, 30, 31, 32, 33, 34, 35, 36, 37, 38, 39, 40, 41, 42, 43, 44, 45, 46, 47, 48, 49, 50, 51, 52, 53, 54, 55, 56, 57, 58, 59, 60, 61, 62, 63, 64, 65, 66, 67, 68, 69, 70, 71, 72, 73, 74, 75, 76, 77, 78, 79, 80, 81, 82, 83, 84, 85, 86, 87, 88, 89, 90, 91, 92, 93, 94, 95, 96, 97, 98, 99, 100, 101, 102, 103, 104, 105, 106, 107, 108, 109, 110, 111, 112, 113, 114, 115, 116, 117, 118] (by decide +kernel) (by decide +kernel)) (goodIn_sub (fun _ h => List.mem_cons_of_mem _ (List.mem_append_left _ (List.mem_append_right _ h))) (by decide +kernel))) (goodIn_sub (fun _ h => List.mem_cons_of_mem _ (List.mem_append_right _ h)) (by decide +kernel))
set_option maxRecDepth 20000 in
theorem gL_restore_X9_restore : GoodIn wsL_restore (wsV RL 97 RX9 yX9_restore wsX9_restore) := goodIn_app (goodIn_of _ (by decide +kernel)) ggL_restore_X9_restore
theorem dL_restore_0 : decode cL_restore 0 = .ok (.aload_n 2, 1) := by decide +kernel
theorem dL_restore_1 : decode cL_restore 1 = .ok (.iconst 0, 1) := by decide +kernel
theorem dL_restore_2 : decode cL_restore 2 = .ok (.aload_n 0, 1) := by decide +kernel
theorem dL_restore_3 : decode cL_restore 3 = .ok (.iload_n 1, 1) := by decide +kernel
theorem dL_restore_4 : decode cL_restore 4 = .ok (.invokevirtual 97, 3) := by decide +kernel
theorem dL_restore_7 : decode cL_restore 7 = .ok (.i2l, 1) := by decide +kernel
theorem dL_restore_8 : decode cL_restore 8 = .ok (.lastore, 1) := by decide +kernel
theorem dL_restore_9 : decode cL_restore 9 = .ok (.goto 9, 3) := by decide +kernel
theorem dL_restore_12 : decode cL_restore 12 = .ok (.astore_n 3, 1) := by decide +kernel
theorem dL_restore_13 : decode cL_restore 13 = .ok (.iconst 1, 1) := by decide +kernel
theorem dL_restore_14 : decode cL_restore 14 = .ok (.ireturn, 1) := by decide +kernel
theorem dL_restore_15 : decode cL_restore 15 = .ok (.astore_n 3, 1) := by decide +kernel
theorem dL_restore_16 : decode cL_restore 16 = .ok (.iconst 2, 1) := by decide +kernel
theorem dL_restore_17 : decode cL_restore 17 = .ok (.ireturn, 1) := by decide +kernel
theorem dL_restore_18 : decode cL_restore 18 = .ok (.iconst 0, 1) := by decide +kernel
theorem dL_restore_19 : decode cL_restore 19 = .ok (.ireturn, 1) := by decide +kernel
set_option maxRecDepth 20000 in
theorem ggL_law_X9_init : GoodIn wsL_law wsX9_init := goodIn_r _ [10, 11, 12, 13, 14, 15, 16, 17, 18, 19, 20, 21, 22, 23, 24, 25, 26, 27, 28, 29, 30, 31, 32, 33, 34, 35, 36, 37, 38, 39, 40, 41, 42, 43, 44, 45, 46, 47, 48, 49, 50, 51, 52, 53, 54, 55, 56, 57, 58, 59, 60, 61, 62, 63, 64, 65, 66, 67, 68, 69, 70, 71, 72, 73, 74, 75, 76, 77, 78, 79, 80, 81, 82, 83, 84, 85, 86, 87, 88, 89, 90, 91, 92, 93, 94, 95, 96, 97, 98, 99, 100, 101, 102, 103, 104, 105, 106, 107, 1145, 1146, 1147, 1148, 1149, 1150, 1151, 1120, 1121, 1122, 1123, 1124, 1125, 1152, 1153, 1154, 1155, 1156, 1157, 1158, 1159, 1160, 1161, 1162, 1163, 1164, 1165, 1166, 1167, 1168, 1169, 1170] (by decide +kernel) (by decide +kernel)
set_option maxRecDepth 20000 in
theorem gL_law_X9_init : GoodIn wsL_law (wsX9_init) := ggL_law_X9_init
set_option maxRecDepth 20000 in
theorem ggL_law_X10_init : GoodIn wsL_law wsX10_init := goodIn_r _ [110, 111, 12, 13, 47, 112, 113, 114, 6, 115, 116, 117, 118, 119, 120, 121, 122, 123, 5, 124, 125, 126, 127, 128, 129, 130, 1126, 1127, 1128, 1129, 1130, 1131, 1132, 1133, 1134, 1135, 1136, 1137, 1138, 1139, 1140, 1141, 1142, 1143, 1144] (by decide +kernel) (by decide +kernel)
set_option maxRecDepth 20000 in
theorem gL_law_X10_init : GoodIn wsL_law (wsX10_init) := ggL_law_X10_init
set_option maxRecDepth 20000 in
theorem ggL_law_L_append : GoodIn wsL_law wsL_append := goodIn_ca (goodIn_ca (goodIn_r _ [134, 135, 136, 137, 138, 139, 2, 140, 30, 141, 142, 143, 144, 145, 146, 147, 148, 149, 150, 151, 29, 152, 153, 154, 155, 156, 157, 158, 159, 160, 161, 162, 104, 1120, 1121, 1122, 1123, 1124, 1125, 1157, 1158] (by decide +kernel) (by decide +kernel)) (goodIn_sub (fun _ h => List.mem_append_left _ (List.mem_append_left _ (List.mem_append_right _ h))) (by decide +kernel))) (goodIn_sub (fun _ h => List.mem_append_left _ (List.mem_append_right _ h)) (by decide +kernel))
set_option maxRecDepth 20000 in
theorem gL_law_L_append : GoodIn wsL_law (va_wsS RL 104 yL_append wsL_append) := goodIn_app (goodIn_of _ (by decide +kernel)) ggL_law_L_append
set_option maxRecDepth 20000 in
theorem ggL_law_X10_append : GoodIn wsL_law wsX10_append := goodIn_r _ [166, 167, 168, 169, 120, 128, 129, 5, 130, 170, 171, 172, 173, 1126, 1127, 1128, 1129, 1130, 1131, 1132, 1133, 1134, 1135, 1136, 1137, 1138, 1139, 1140, 1141, 1142, 1143, 1144] (by decide +kernel) (by decide +kernel)
set_option maxRecDepth 20000 in
theorem gL_law_X10_append : GoodIn wsL_law (wsV RL 109 RX10 yX10_append wsX10_append) := goodIn_app (goodIn_of _ (by decide +kernel)) ggL_law_X10_append
set_option maxRecDepth 20000 in
theorem ggL_law_X10_thrown : GoodIn wsL_law wsX10_thrown := goodIn_r _ [177, 167, 1126, 1127, 1128, 1129, 1130, 1131, 1132, 1133, 1134, 1135, 1136, 1137, 1138, 1139, 1140, 1141, 1142, 1143, 1144] (by decide +kernel) (by decide +kernel)
set_option maxRecDepth 20000 in
theorem gL_law_X10_thrown : GoodIn wsL_law (wsV RL 110 RX10 yX10_thrown wsX10_thrown) := goodIn_app (goodIn_of _ (by decide +kernel)) ggL_law_X10_thrown
set_option maxRecDepth 20000 in
theorem ggL_law_X9_clearText : GoodIn wsL_law wsX9_clearText := goodIn_r _ [181, 30, 182, 183, 184, 29, 185, 153, 1120, 1121, 1122, 1123, 1124, 1125, 1157, 1158] (by decide +kernel) (by decide +kernel)
set_option maxRecDepth 20000 in
theorem gL_law_X9_clearText : GoodIn wsL_law (wsV RL 113 RX9 yX9_clearText wsX9_clearText) := goodIn_app (goodIn_of _ (by decide +kernel)) ggL_law_X9_clearText
set_option maxRecDepth 20000 in
theorem ggL_law_X10_clearText : GoodIn wsL_law wsX10_clearText := goodIn_r _ [189, 167, 169, 1126, 1127, 1128, 1129, 1130, 1131, 1132, 1133, 1134, 1135, 1136, 1137, 1138, 1139, 1140, 1141, 1142, 1143, 1144] (by decide +kernel) (by decide +kernel)
set_option maxRecDepth 20000 in
theorem gL_law_X10_clearText : GoodIn wsL_law (wsV RL 116 RX10 yX10_clearText wsX10_clearText) := goodIn_app (goodIn_of _ (by decide +kernel)) ggL_law_X10_clearText
set_option maxRecDepth 20000 in
theorem ggL_law_X9_errorPosition : GoodIn wsL_law wsX9_errorPosition := goodIn_r _ [193, 34, 30, 18, 194, 195, 196, 33, 197, 198, 199, 200, 201, 202, 203, 204, 205, 29, 206, 153, 104, 207, 208, 209, 210, 211, 212, 2, 213, 214, 215, 64, 65, 16, 66, 42, 46, 48, 67, 68, 69, 70, 71, 72, 73, 41, 74, 75, 76, 77, 78, 45, 79, 80, 81, 82, 83, 84, 85, 216, 217, 218, 219, 220, 221, 222, 223, 224, 225, 226, 227, 228, 229, 230, 231, 232, 233, 234, 235, 236, 237, 238, 239, 240, 241, 242, 243, 52, 53, 54, 55, 56, 244, 245, 246, 247, 248, 249, 250, 251, 252, 253, 254, 255, 256, 257, 258, 259, 260, 261, 262, 263, 264, 265, 266, 267, 60, 61, 62, 268, 269, 270, 271, 272, 273, 274, 275, 276, 1120, 1121, 1122, 1123, 1124, 1125, 1159, 1157, 1158, 1145, 1146, 1147, 1148, 1149, 1150, 1151, 1160, 1161, 1162, 1163, 1164, 1165, 1166, 1167, 1168, 1169, 1170] (by decide +kernel) (by decide +kernel)
set_option maxRecDepth 20000 in
theorem gL_law_X9_errorPosition : GoodIn wsL_law (wsV RL 117 RX9 yX9_errorPosition wsX9_errorPosition) := goodIn_app (goodIn_of _ (by decide +kernel)) ggL_law_X9_errorPosition
set_option maxRecDepth 20000 in
theorem ggL_law_X10_errorPosition : GoodIn wsL_law wsX10_errorPosition := goodIn_r _ [280, 167, 281, 282, 283, 284, 5, 285, 286, 287, 288, 289, 112, 169, 290, 291, 292, 293, 120, 294, 295, 296, 297, 128, 129, 130, 298, 299, 300, 301, 302, 303, 304, 305, 306, 307, 308, 309, 310, 311, 312, 313, 314, 315, 316, 317, 1126, 1127, 1128, 1129, 1130, 1131, 1132, 1133, 1134, 1135, 1136, 1137, 1138, 1139, 1140, 1141, 1142, 1143, 1144] (by decide +kernel) (by decide +kernel)
set_option maxRecDepth 20000 in
theorem gL_law_X10_errorPosition : GoodIn wsL_law (wsV RL 120 RX10 yX10_errorPosition wsX10_errorPosition) := goodIn_app (goodIn_of _ (by decide +kernel)) ggL_law_X10_errorPosition
set_option maxRecDepth 20000 in
theorem ggL_law_L_load : GoodIn wsL_law wsL_load := goodIn_ca (goodIn_r _ [320, 136, 321, 322, 323, 2, 324, 34, 30, 18, 17, 22, 26, 194, 195, 196, 33, 197, 198, 199, 200, 201, 202, 203, 204, 205, 29, 206, 153, 104, 207, 208, 209, 210, 211, 212, 213, 214, 215, 64, 65, 16, 66, 42, 46, 48, 67, 68, 69, 70, 71, 72, 73, 41, 74, 75, 76, 77, 78, 45, 79, 80, 81, 82, 83, 84, 85, 216, 217, 218, 219, 220, 221, 222, 223, 224, 225, 226, 227, 228, 229, 230, 231, 232, 233, 234, 235, 236, 237, 238, 239, 240, 241, 242, 243, 52, 53, 54, 55, 56, 244, 245, 246, 247, 248, 249, 250, 251, 252, 253, 254, 255, 256, 257, 258, 259, 260, 261, 262, 263, 264, 265, 266, 267, 60, 61, 62, 268, 269, 270, 271, 272, 273, 274, 275, 276, 154, 155, 156, 157, 158, 325, 326, 327, 328, 329, 330, 331, 332, 333, 334, 335, 336, 337, 338, 339, 340, 341, 342, 343, 344, 345, 21, 346, 347, 348, 349, 350, 25, 351, 352, 353, 1120, 1121, 1122, 1123, 1124, 1125, 1145, 1146, 1147, 1148, 1149, 1150, 1151, 1159, 1157, 1158, 1160, 1161, 1162, 1163, 1164, 1165, 1166, 1167, 1168, 1169, 1170, 1152, 1153, 1154, 1155, 1156] (by decide +kernel) (by decide +kernel)) (goodIn_sub (fun _ h => List.mem_append_left _ (List.mem_append_right _ h)) (by decide +kernel))
set_option maxRecDepth 20000 in
theorem gL_law_L_load : GoodIn wsL_law (va_wsS RL 121 yL_load wsL_load) := goodIn_app (goodIn_of _ (by decide +kernel)) ggL_law_L_load
set_option maxRecDepth 20000 in
theorem ggL_law_X10_load : GoodIn wsL_law wsX10_load := goodIn_r _ [357, 167, 358, 119, 112, 282, 283, 284, 5, 285, 281, 286, 287, 288, 289, 169, 290, 291, 292, 293, 120, 294, 295, 296, 297, 128, 129, 130, 298, 299, 300, 301, 302, 303, 304, 305, 306, 307, 308, 309, 310, 311, 312, 313, 314, 315, 316, 317, 170, 171, 172, 173, 121, 122, 123, 124, 125, 126, 127, 1126, 1127, 1128, 1129, 1130, 1131, 1132, 1133, 1134, 1135, 1136, 1137, 1138, 1139, 1140, 1141, 1142, 1143, 1144] (by decide +kernel) (by decide +kernel)
set_option maxRecDepth 20000 in
theorem gL_law_X10_load : GoodIn wsL_law (wsV RL 124 RX10 yX10_load wsX10_load) := goodIn_app (goodIn_of _ (by decide +kernel)) ggL_law_X10_load
set_option maxRecDepth 20000 in
theorem ggL_law_L_about : GoodIn wsL_law wsL_about := goodIn_ca (goodIn_r _ [361, 135, 362, 363, 364, 2, 365, 17, 141, 142, 143, 144, 145, 146, 147, 148, 366, 233, 234, 16, 235, 67, 367, 368, 369, 45, 370, 80, 353, 225, 226, 41, 227, 75, 371, 372, 373, 374, 68, 375, 376, 377, 378, 69, 379, 380, 381, 382, 383, 384, 385, 386, 387, 388, 389, 390, 55, 391, 392, 393, 394, 395, 396, 397, 398, 399, 400, 401, 402, 56, 403, 404, 405, 406, 81, 407, 408, 409, 410, 48, 42, 411, 412, 413, 414, 415, 416, 417, 418, 419, 420, 421, 422, 423, 424, 425, 426, 427, 428, 429, 430, 431, 432, 433, 434, 435, 436, 437, 438, 439, 440, 1120, 1121, 1122, 1123, 1124, 1125, 1145, 1146, 1147, 1148, 1149, 1150, 1151, 1166, 1167, 1168, 1169, 1170, 1160, 1161, 1162, 1163, 1164, 1165] (by decide +kernel) (by decide +kernel)) (goodIn_sub (fun _ h => List.mem_append_left _ (List.mem_append_left _ (List.mem_append_right _ h))) (by decide +kernel))
set_option maxRecDepth 20000 in
theorem gL_law_L_about : GoodIn wsL_law (va_wsS RL 125 yL_about wsL_about) := goodIn_app (goodIn_of _ (by decide +kernel)) ggL_law_L_about
set_option maxRecDepth 20000 in
theorem ggL_law_X10_about : GoodIn wsL_law wsX10_about := goodIn_r _ [444, 167, 112, 445, 446, 447, 5, 448, 449, 450, 451, 452, 453, 454, 455, 456, 457, 458, 459, 460, 461, 462, 463, 464, 170, 171, 172, 173, 1126, 1127, 1128, 1129, 1130, 1131, 1132, 1133, 1134, 1135, 1136, 1137, 1138, 1139, 1140, 1141, 1142, 1143, 1144] (by decide +kernel) (by decide +kernel)
set_option maxRecDepth 20000 in
theorem gL_law_X10_about : GoodIn wsL_law (wsV RL 127 RX10 yX10_about wsX10_about) := goodIn_app (goodIn_of _ (by decide +kernel)) ggL_law_X10_about
set_option maxRecDepth 20000 in
theorem ggL_law_L_key : GoodIn wsL_law wsL_key := goodIn_ca (goodIn_ca (goodIn_r _ [467, 468, 135, 469, 470, 471, 2, 472, 17, 473, 474, 475, 476, 477, 253, 254, 16, 255, 67, 478, 479, 480, 481, 482, 141, 142, 143, 144, 145, 146, 147, 148, 483, 484, 485, 486, 48, 252, 487, 412, 413, 41, 414, 415, 416, 417, 418, 387, 388, 389, 390, 55, 391, 392, 393, 394, 75, 419, 420, 421, 422, 423, 424, 425, 426, 488, 489, 490, 491, 52, 492, 493, 494, 495, 496, 53, 497, 498, 499, 500, 399, 400, 401, 402, 56, 501, 502, 503, 504, 505, 506, 507, 508, 509, 510, 1120, 1121, 1122, 1123, 1124, 1125, 1145, 1146, 1147, 1148, 1149, 1150, 1151, 1160, 1161, 1162, 1163, 1164, 1165] (by decide +kernel) (by decide +kernel)) (goodIn_sub (fun _ h => List.mem_append_right _ h) (by decide +kernel))) (goodIn_sub (fun _ h => List.mem_append_left _ (List.mem_append_left _ (List.mem_append_right _ h))) (by decide +kernel))
set_option maxRecDepth 20000 in
theorem gL_law_L_key : GoodIn wsL_law (va_wsS RL 128 yL_key wsL_key) := goodIn_app (goodIn_of _ (by decide +kernel)) ggL_law_L_key
set_option maxRecDepth 20000 in
theorem ggL_law_X10_key : GoodIn wsL_law wsX10_key := goodIn_r _ [514, 167, 125, 112, 515, 516, 517, 5, 518, 519, 520, 521, 522, 128, 129, 130, 170, 171, 172, 173, 311, 312, 313, 445, 446, 447, 448, 449, 450, 451, 452, 461, 462, 463, 464, 523, 524, 525, 526, 527, 528, 529, 1126, 1127, 1128, 1129, 1130, 1131, 1132, 1133, 1134, 1135, 1136, 1137, 1138, 1139, 1140, 1141, 1142, 1143, 1144] (by decide +kernel) (by decide +kernel)
set_option maxRecDepth 20000 in
theorem gL_law_X10_key : GoodIn wsL_law (wsV RL 131 RX10 yX10_key wsX10_key) := goodIn_app (goodIn_of _ (by decide +kernel)) ggL_law_X10_key
set_option maxRecDepth 20000 in
theorem ggL_law_L_record : GoodIn wsL_law wsL_record := goodIn_ca (goodIn_ca (goodIn_r _ [532, 468, 135, 533, 534, 535, 2, 536, 17, 537, 392, 393, 41, 394, 75, 478, 479, 480, 481, 482, 141, 142, 143, 144, 145, 146, 147, 148, 538, 388, 389, 390, 55, 391, 493, 494, 495, 496, 53, 539, 540, 541, 542, 54, 488, 489, 490, 491, 52, 543, 400, 401, 402, 56, 544, 384, 385, 386, 387, 545, 546, 547, 16, 548, 48, 42, 549, 550, 551, 552, 1120, 1121, 1122, 1123, 1124, 1125, 1145, 1146, 1147, 1148, 1149, 1150, 1151, 1160, 1161, 1162, 1163, 1164, 1165] (by decide +kernel) (by decide +kernel)) (goodIn_sub (fun _ h => List.mem_append_right _ h) (by decide +kernel))) (goodIn_sub (fun _ h => List.mem_append_left _ (List.mem_append_left _ (List.mem_append_right _ h))) (by decide +kernel))
set_option maxRecDepth 20000 in
theorem gL_law_L_record : GoodIn wsL_law (va_wsS RL 132 yL_record wsL_record) := goodIn_app (goodIn_of _ (by decide +kernel)) ggL_law_L_record
set_option maxRecDepth 20000 in
theorem ggL_law_X10_record : GoodIn wsL_law wsX10_record := goodIn_r _ [556, 167, 557, 112, 558, 559, 560, 5, 561, 128, 129, 130, 170, 171, 172, 173, 445, 446, 447, 448, 562, 563, 564, 565, 566, 567, 568, 1126, 1127, 1128, 1129, 1130, 1131, 1132, 1133, 1134, 1135, 1136, 1137, 1138, 1139, 1140, 1141, 1142, 1143, 1144] (by decide +kernel) (by decide +kernel)
set_option maxRecDepth 20000 in
theorem gL_law_X10_record : GoodIn wsL_law (wsV RL 135 RX10 yX10_record wsX10_record) := goodIn_app (goodIn_of _ (by decide +kernel)) ggL_law_X10_record
set_option maxRecDepth 20000 in
theorem ggL_law_L_device : GoodIn wsL_law wsL_device := goodIn_ca (goodIn_ca (goodIn_r _ [571, 468, 135, 572, 573, 574, 2, 575, 17, 576, 577, 578, 45, 579, 80, 478, 479, 480, 481, 482, 141, 142, 143, 144, 145, 146, 147, 148, 580, 581, 582, 583, 60, 584, 585, 586, 587, 588, 61, 589, 590, 591, 592, 62, 593, 594, 595, 596, 81, 597, 598, 599, 16, 600, 67, 46, 601, 602, 603, 604, 42, 605, 484, 485, 486, 48, 252, 253, 254, 255, 606, 489, 490, 41, 491, 52, 391, 392, 393, 394, 75, 607, 608, 609, 610, 611, 612, 425, 613, 614, 505, 506, 507, 508, 509, 510, 1120, 1121, 1122, 1123, 1124, 1125, 1145, 1146, 1147, 1148, 1149, 1150, 1151, 1166, 1167, 1168, 1169, 1170, 1160, 1161, 1162, 1163, 1164, 1165] (by decide +kernel) (by decide +kernel)) (goodIn_sub (fun _ h => List.mem_append_right _ h) (by decide +kernel))) (goodIn_sub (fun _ h => List.mem_append_left _ (List.mem_append_left _ (List.mem_append_right _ h))) (by decide +kernel))
set_option maxRecDepth 20000 in
theorem gL_law_L_device : GoodIn wsL_law (va_wsS RL 136 yL_device wsL_device) := goodIn_app (goodIn_of _ (by decide +kernel)) ggL_law_L_device
set_option maxRecDepth 20000 in
theorem ggL_law_X10_device : GoodIn wsL_law wsX10_device := goodIn_r _ [618, 167, 619, 112, 620, 621, 622, 5, 623, 128, 129, 130, 170, 171, 172, 173, 445, 446, 447, 448, 624, 625, 626, 627, 453, 454, 455, 456, 628, 629, 630, 527, 528, 529, 1126, 1127, 1128, 1129, 1130, 1131, 1132, 1133, 1134, 1135, 1136, 1137, 1138, 1139, 1140, 1141, 1142, 1143, 1144] (by decide +kernel) (by decide +kernel)
set_option maxRecDepth 20000 in
theorem gL_law_X10_device : GoodIn wsL_law (wsV RL 138 RX10 yX10_device wsX10_device) := goodIn_app (goodIn_of _ (by decide +kernel)) ggL_law_X10_device
set_option maxRecDepth 20000 in
theorem ggL_law_L_trace : GoodIn wsL_law wsL_trace := goodIn_ca (goodIn_ca (goodIn_r _ [633, 468, 135, 634, 635, 636, 2, 637, 17, 473, 474, 475, 476, 477, 253, 254, 16, 255, 67, 478, 479, 480, 481, 482, 144, 145, 146, 147, 148, 483, 484, 485, 486, 48, 252, 638, 420, 421, 41, 422, 423, 424, 425, 426, 387, 388, 389, 390, 55, 391, 392, 393, 394, 75, 1120, 1121, 1122, 1123, 1124, 1125, 1145, 1146, 1147, 1148, 1149, 1150, 1151, 1160, 1161, 1162, 1163, 1164, 1165] (by decide +kernel) (by decide +kernel)) (goodIn_sub (fun _ h => List.mem_append_right _ h) (by decide +kernel))) (goodIn_sub (fun _ h => List.mem_append_left _ (List.mem_append_left _ (List.mem_append_right _ h))) (by decide +kernel))
set_option maxRecDepth 20000 in
theorem gL_law_L_trace : GoodIn wsL_law (va_wsS RL 139 yL_trace wsL_trace) := goodIn_app (goodIn_of _ (by decide +kernel)) ggL_law_L_trace
set_option maxRecDepth 20000 in
theorem ggL_law_X10_trace : GoodIn wsL_law wsX10_trace := goodIn_r _ [642, 167, 112, 515, 516, 517, 5, 518, 125, 519, 520, 521, 522, 128, 129, 130, 170, 171, 172, 173, 311, 312, 313, 445, 446, 447, 448, 566, 567, 568, 1126, 1127, 1128, 1129, 1130, 1131, 1132, 1133, 1134, 1135, 1136, 1137, 1138, 1139, 1140, 1141, 1142, 1143, 1144] (by decide +kernel) (by decide +kernel)
set_option maxRecDepth 20000 in
theorem gL_law_X10_trace : GoodIn wsL_law (wsV RL 141 RX10 yX10_trace wsX10_trace) := goodIn_app (goodIn_of _ (by decide +kernel)) ggL_law_X10_trace
set_option maxRecDepth 20000 in
theorem ggL_law_L_wentWrong : GoodIn wsL_law wsL_wentWrong := goodIn_ca (goodIn_r _ [645, 468, 646, 647, 648, 2, 649, 17, 473, 474, 475, 476, 477, 253, 254, 16, 255, 67, 478, 479, 480, 481, 482, 483, 484, 485, 486, 48, 252, 650, 651, 652, 41, 653, 399, 400, 401, 402, 56, 391, 392, 393, 394, 75, 387, 388, 389, 390, 55, 1120, 1121, 1122, 1123, 1124, 1125, 1145, 1146, 1147, 1148, 1149, 1150, 1151, 1160, 1161, 1162, 1163, 1164, 1165] (by decide +kernel) (by decide +kernel)) (goodIn_sub (fun _ h => List.mem_append_right _ h) (by decide +kernel))
set_option maxRecDepth 20000 in
theorem gL_law_L_wentWrong : GoodIn wsL_law (va_wsS RL 142 yL_wentWrong wsL_wentWrong) := goodIn_app (goodIn_of _ (by decide +kernel)) ggL_law_L_wentWrong
set_option maxRecDepth 20000 in
theorem ggL_law_X10_wentWrong : GoodIn wsL_law wsX10_wentWrong := goodIn_r _ [657, 167, 112, 515, 516, 517, 5, 518, 125, 519, 520, 521, 522, 128, 129, 130, 170, 171, 172, 173, 311, 312, 313, 445, 446, 447, 448, 1126, 1127, 1128, 1129, 1130, 1131, 1132, 1133, 1134, 1135, 1136, 1137, 1138, 1139, 1140, 1141, 1142, 1143, 1144] (by decide +kernel) (by decide +kernel)
set_option maxRecDepth 20000 in
theorem gL_law_X10_wentWrong : GoodIn wsL_law (wsV RL 144 RX10 yX10_wentWrong wsX10_wentWrong) := goodIn_app (goodIn_of _ (by decide +kernel)) ggL_law_X10_wentWrong
set_option maxRecDepth 20000 in
theorem ggL_law_L_common : GoodIn wsL_law wsL_common := goodIn_ca (goodIn_r _ [660, 468, 661, 662, 663, 2, 664, 17, 473, 474, 475, 476, 477, 253, 254, 16, 255, 67, 478, 479, 480, 481, 482, 483, 484, 485, 486, 48, 252, 665, 666, 667, 41, 668, 669, 550, 551, 552, 387, 388, 389, 390, 55, 391, 392, 393, 394, 75, 1120, 1121, 1122, 1123, 1124, 1125, 1145, 1146, 1147, 1148, 1149, 1150, 1151, 1160, 1161, 1162, 1163, 1164, 1165] (by decide +kernel) (by decide +kernel)) (goodIn_sub (fun _ h => List.mem_append_right _ h) (by decide +kernel))
set_option maxRecDepth 20000 in
theorem gL_law_L_common : GoodIn wsL_law (va_wsS RL 145 yL_common wsL_common) := goodIn_app (goodIn_of _ (by decide +kernel)) ggL_law_L_common
set_option maxRecDepth 20000 in
theorem ggL_law_X10_common : GoodIn wsL_law wsX10_common := goodIn_r _ [673, 167, 112, 515, 516, 517, 5, 518, 125, 519, 520, 521, 522, 128, 129, 130, 170, 171, 172, 173, 311, 312, 313, 445, 446, 447, 448, 1126, 1127, 1128, 1129, 1130, 1131, 1132, 1133, 1134, 1135, 1136, 1137, 1138, 1139, 1140, 1141, 1142, 1143, 1144] (by decide +kernel) (by decide +kernel)
set_option maxRecDepth 20000 in
theorem gL_law_X10_common : GoodIn wsL_law (wsV RL 148 RX10 yX10_common wsX10_common) := goodIn_app (goodIn_of _ (by decide +kernel)) ggL_law_X10_common
set_option maxRecDepth 20000 in
theorem ggL_law_L_accepted : GoodIn wsL_law wsL_accepted := goodIn_ca (goodIn_r _ [676, 468, 677, 678, 679, 2, 680, 17, 473, 474, 475, 476, 477, 253, 254, 16, 255, 67, 478, 479, 480, 481, 482, 681, 682, 683, 684, 46, 69, 601, 602, 603, 604, 42, 605, 484, 485, 486, 48, 252, 606, 489, 490, 41, 491, 52, 391, 392, 393, 394, 75, 685, 686, 687, 45, 688, 80, 689, 608, 609, 610, 60, 611, 612, 425, 613, 61, 62, 584, 577, 578, 579, 614, 505, 506, 507, 508, 509, 510, 1120, 1121, 1122, 1123, 1124, 1125, 1145, 1146, 1147, 1148, 1149, 1150, 1151, 1160, 1161, 1162, 1163, 1164, 1165, 1166, 1167, 1168, 1169, 1170] (by decide +kernel) (by decide +kernel)) (goodIn_sub (fun _ h => List.mem_append_right _ h) (by decide +kernel))
set_option maxRecDepth 20000 in
theorem gL_law_L_accepted : GoodIn wsL_law (va_wsS RL 149 yL_accepted wsL_accepted) := goodIn_app (goodIn_of _ (by decide +kernel)) ggL_law_L_accepted
set_option maxRecDepth 20000 in
theorem ggL_law_X10_accepted : GoodIn wsL_law wsX10_accepted := goodIn_r _ [693, 167, 515, 516, 517, 5, 518, 125, 519, 520, 521, 522, 112, 128, 129, 130, 694, 695, 696, 697, 311, 312, 313, 445, 446, 447, 448, 624, 625, 626, 627, 453, 454, 455, 456, 628, 629, 630, 527, 528, 529, 170, 171, 172, 173, 1126, 1127, 1128, 1129, 1130, 1131, 1132, 1133, 1134, 1135, 1136, 1137, 1138, 1139, 1140, 1141, 1142, 1143, 1144] (by decide +kernel) (by decide +kernel)
set_option maxRecDepth 20000 in
theorem gL_law_X10_accepted : GoodIn wsL_law (wsV RL 151 RX10 yX10_accepted wsX10_accepted) := goodIn_app (goodIn_of _ (by decide +kernel)) ggL_law_X10_accepted
set_option maxRecDepth 20000 in
theorem ggL_law_L_enter : GoodIn wsL_law wsL_enter := goodIn_ca (goodIn_ca (goodIn_ca (goodIn_r _ [700, 468, 135, 136, 701, 702, 703, 2, 704, 17, 22, 473, 474, 475, 476, 477, 253, 254, 16, 255, 67, 478, 479, 480, 481, 482, 705, 706, 707, 141, 142, 143, 144, 145, 146, 147, 148, 708, 245, 246, 41, 247, 75, 154, 155, 156, 157, 158, 709, 710, 711, 21, 712, 347, 713, 714, 715, 716, 717, 91, 718, 719, 720, 721, 722, 326, 327, 328, 42, 46, 48, 329, 330, 331, 332, 68, 69, 70, 333, 334, 335, 336, 52, 337, 53, 54, 55, 56, 338, 339, 340, 45, 341, 60, 342, 61, 62, 80, 81, 723, 237, 238, 239, 240, 241, 242, 243, 244, 248, 249, 250, 251, 252, 1120, 1121, 1122, 1123, 1124, 1125, 1145, 1146, 1147, 1148, 1149, 1150, 1151, 1160, 1161, 1162, 1163, 1164, 1165, 1152, 1153, 1154, 1166, 1167, 1168, 1169, 1170] (by decide +kernel) (by decide +kernel)) (goodIn_sub (fun _ h => List.mem_append_right _ h) (by decide +kernel))) (goodIn_sub (fun _ h => List.mem_append_left _ (List.mem_append_left _ (List.mem_append_right _ h))) (by decide +kernel))) (goodIn_sub (fun _ h => List.mem_append_left _ (List.mem_append_right _ h)) (by decide +kernel))
set_option maxRecDepth 20000 in
theorem gL_law_L_enter : GoodIn wsL_law (va_wsS RL 152 yL_enter wsL_enter) := goodIn_app (goodIn_of _ (by decide +kernel)) ggL_law_L_enter
set_option maxRecDepth 20000 in
theorem ggL_law_X10_enter : GoodIn wsL_law wsX10_enter := goodIn_r _ [727, 167, 728, 112, 515, 516, 517, 5, 518, 125, 519, 520, 521, 522, 128, 129, 130, 170, 171, 172, 173, 729, 730, 731, 732, 358, 114, 115, 127, 307, 308, 309, 310, 311, 312, 313, 1126, 1127, 1128, 1129, 1130, 1131, 1132, 1133, 1134, 1135, 1136, 1137, 1138, 1139, 1140, 1141, 1142, 1143, 1144] (by decide +kernel) (by decide +kernel)
set_option maxRecDepth 20000 in
theorem gL_law_X10_enter : GoodIn wsL_law (wsV RL 154 RX10 yX10_enter wsX10_enter) := goodIn_app (goodIn_of _ (by decide +kernel)) ggL_law_X10_enter
set_option maxRecDepth 20000 in
theorem ggL_law_L_teach : GoodIn wsL_law wsL_teach := goodIn_ca (goodIn_ca (goodIn_ca (goodIn_r _ [735, 468, 135, 136, 736, 737, 738, 2, 739, 17, 22, 473, 474, 475, 476, 477, 253, 254, 16, 255, 67, 478, 479, 480, 481, 482, 144, 145, 146, 147, 148, 740, 741, 742, 743, 42, 744, 745, 746, 747, 605, 484, 485, 486, 48, 252, 748, 245, 246, 41, 247, 75, 154, 155, 156, 157, 158, 709, 710, 711, 21, 712, 347, 713, 714, 715, 716, 717, 91, 718, 719, 720, 721, 722, 326, 327, 328, 46, 329, 330, 331, 332, 68, 69, 70, 333, 334, 335, 336, 52, 337, 53, 54, 55, 56, 338, 339, 340, 45, 341, 60, 342, 61, 62, 80, 81, 749, 750, 751, 752, 753, 612, 425, 613, 754, 755, 756, 757, 758, 759, 760, 761, 762, 606, 489, 490, 491, 391, 392, 393, 394, 763, 764, 765, 240, 241, 242, 243, 244, 248, 249, 250, 251, 1120, 1121, 1122, 1123, 1124, 1125, 1145, 1146, 1147, 1148, 1149, 1150, 1151, 1160, 1161, 1162, 1163, 1164, 1165, 1152, 1153, 1154, 1166, 1167, 1168, 1169, 1170] (by decide +kernel) (by decide +kernel)) (goodIn_sub (fun _ h => List.mem_append_right _ h) (by decide +kernel))) (goodIn_sub (fun _ h => List.mem_append_left _ (List.mem_append_left _ (List.mem_append_right _ h))) (by decide +kernel))) (goodIn_sub (fun _ h => List.mem_append_left _ (List.mem_append_right _ h)) (by decide +kernel))
set_option maxRecDepth 20000 in
theorem gL_law_L_teach : GoodIn wsL_law (va_wsS RL 155 yL_teach wsL_teach) := goodIn_app (goodIn_of _ (by decide +kernel)) ggL_law_L_teach
set_option maxRecDepth 20000 in
theorem ggL_law_X10_teach : GoodIn wsL_law wsX10_teach := goodIn_r _ [769, 167, 515, 516, 517, 5, 518, 125, 519, 520, 521, 522, 112, 128, 129, 130, 170, 171, 172, 173, 770, 771, 772, 773, 311, 312, 313, 729, 730, 731, 732, 358, 114, 115, 127, 774, 775, 776, 777, 628, 629, 630, 778, 779, 780, 781, 782, 783, 445, 446, 447, 448, 784, 785, 786, 307, 308, 309, 310, 1126, 1127, 1128, 1129, 1130, 1131, 1132, 1133, 1134, 1135, 1136, 1137, 1138, 1139, 1140, 1141, 1142, 1143, 1144] (by decide +kernel) (by decide +kernel)
set_option maxRecDepth 20000 in
theorem gL_law_X10_teach : GoodIn wsL_law (wsV RL 157 RX10 yX10_teach wsX10_teach) := goodIn_app (goodIn_of _ (by decide +kernel)) ggL_law_X10_teach
set_option maxRecDepth 20000 in
theorem ggL_law_L_erase : GoodIn wsL_law wsL_erase := goodIn_ca (goodIn_r _ [789, 468, 790, 791, 792, 2, 793, 22, 17, 473, 474, 475, 476, 477, 253, 254, 16, 255, 67, 478, 479, 480, 481, 482, 709, 710, 711, 21, 712, 347, 713, 714, 715, 716, 717, 91, 718, 719, 720, 721, 722, 326, 327, 328, 42, 46, 48, 329, 330, 331, 332, 68, 69, 70, 333, 334, 335, 41, 336, 52, 337, 53, 54, 55, 56, 75, 338, 339, 340, 45, 341, 60, 342, 61, 62, 80, 81, 794, 795, 796, 797, 601, 602, 603, 604, 605, 484, 485, 486, 252, 606, 489, 490, 491, 391, 392, 393, 394, 248, 249, 250, 251, 1120, 1121, 1122, 1123, 1124, 1125, 1145, 1146, 1147, 1148, 1149, 1150, 1151, 1152, 1153, 1154, 1160, 1161, 1162, 1163, 1164, 1165, 1166, 1167, 1168, 1169, 1170] (by decide +kernel) (by decide +kernel)) (goodIn_sub (fun _ h => List.mem_append_right _ h) (by decide +kernel))
set_option maxRecDepth 20000 in
theorem gL_law_L_erase : GoodIn wsL_law (va_wsS RL 158 yL_erase wsL_erase) := goodIn_app (goodIn_of _ (by decide +kernel)) ggL_law_L_erase
set_option maxRecDepth 20000 in
theorem ggL_law_X10_erase : GoodIn wsL_law wsX10_erase := goodIn_r _ [801, 167, 112, 515, 516, 517, 5, 518, 125, 519, 520, 521, 522, 128, 129, 130, 170, 171, 172, 173, 729, 730, 731, 732, 358, 114, 115, 127, 311, 312, 313, 445, 446, 447, 448, 1126, 1127, 1128, 1129, 1130, 1131, 1132, 1133, 1134, 1135, 1136, 1137, 1138, 1139, 1140, 1141, 1142, 1143, 1144] (by decide +kernel) (by decide +kernel)
set_option maxRecDepth 20000 in
theorem gL_law_X10_erase : GoodIn wsL_law (wsV RL 160 RX10 yX10_erase wsX10_erase) := goodIn_app (goodIn_of _ (by decide +kernel)) ggL_law_X10_erase
set_option maxRecDepth 20000 in
theorem ggL_law_L_press : GoodIn wsL_law wsL_press := goodIn_ca (goodIn_ca (goodIn_r _ [804, 468, 136, 805, 806, 807, 2, 808, 17, 22, 473, 474, 475, 476, 477, 253, 254, 16, 255, 67, 478, 479, 480, 481, 482, 809, 745, 746, 747, 605, 484, 485, 486, 48, 252, 154, 155, 156, 157, 158, 709, 710, 711, 21, 712, 347, 713, 714, 715, 716, 717, 91, 718, 719, 720, 721, 722, 326, 327, 328, 42, 46, 329, 330, 331, 332, 68, 69, 70, 333, 334, 335, 41, 336, 52, 337, 53, 54, 55, 56, 75, 338, 339, 340, 45, 341, 60, 342, 61, 62, 80, 81, 810, 811, 812, 813, 601, 602, 603, 604, 606, 489, 490, 491, 391, 392, 393, 394, 685, 686, 687, 688, 689, 608, 609, 610, 611, 612, 425, 613, 584, 577, 578, 579, 614, 505, 506, 507, 508, 509, 510, 814, 815, 816, 817, 1120, 1121, 1122, 1123, 1124, 1125, 1145, 1146, 1147, 1148, 1149, 1150, 1151, 1152, 1153, 1154, 1160, 1161, 1162, 1163, 1164, 1165, 1166, 1167, 1168, 1169, 1170] (by decide +kernel) (by decide +kernel)) (goodIn_sub (fun _ h => List.mem_append_right _ h) (by decide +kernel))) (goodIn_sub (fun _ h => List.mem_append_left _ (List.mem_append_right _ h)) (by decide +kernel))
set_option maxRecDepth 20000 in
theorem gL_law_L_press : GoodIn wsL_law (va_wsS RL 161 yL_press wsL_press) := goodIn_app (goodIn_of _ (by decide +kernel)) ggL_law_L_press
set_option maxRecDepth 20000 in
theorem ggL_law_X10_press : GoodIn wsL_law wsX10_press := goodIn_r _ [821, 167, 112, 515, 516, 517, 5, 518, 125, 519, 520, 521, 522, 128, 129, 130, 170, 171, 172, 173, 311, 312, 313, 729, 730, 731, 732, 358, 114, 115, 127, 822, 823, 824, 825, 694, 695, 696, 697, 445, 446, 447, 448, 624, 625, 626, 627, 453, 454, 455, 456, 628, 629, 630, 527, 528, 529, 1126, 1127, 1128, 1129, 1130, 1131, 1132, 1133, 1134, 1135, 1136, 1137, 1138, 1139, 1140, 1141, 1142, 1143, 1144] (by decide +kernel) (by decide +kernel)
set_option maxRecDepth 20000 in
theorem gL_law_X10_press : GoodIn wsL_law (wsV RL 163 RX10 yX10_press wsX10_press) := goodIn_app (goodIn_of _ (by decide +kernel)) ggL_law_X10_press
set_option maxRecDepth 20000 in
theorem ggL_law_L_addDevice : GoodIn wsL_law wsL_addDevice := goodIn_ca (goodIn_ca (goodIn_ca (goodIn_r _ [828, 468, 135, 136, 829, 830, 831, 2, 832, 17, 22, 833, 834, 835, 16, 836, 67, 478, 479, 480, 481, 482, 705, 706, 707, 141, 142, 143, 837, 838, 839, 144, 145, 146, 147, 148, 840, 257, 258, 45, 259, 80, 154, 155, 156, 157, 158, 709, 710, 711, 21, 712, 347, 713, 714, 715, 716, 717, 91, 718, 719, 720, 721, 722, 326, 327, 328, 42, 46, 48, 329, 330, 331, 332, 68, 69, 70, 333, 334, 335, 41, 336, 52, 337, 53, 54, 55, 56, 75, 338, 339, 340, 341, 60, 342, 61, 62, 81, 841, 265, 266, 267, 268, 1120, 1121, 1122, 1123, 1124, 1125, 1145, 1146, 1147, 1148, 1149, 1150, 1151, 1166, 1167, 1168, 1169, 1170, 1152, 1153, 1154, 1160, 1161, 1162, 1163, 1164, 1165] (by decide +kernel) (by decide +kernel)) (goodIn_sub (fun _ h => List.mem_append_right _ h) (by decide +kernel))) (goodIn_sub (fun _ h => List.mem_append_left _ (List.mem_append_left _ (List.mem_append_right _ h))) (by decide +kernel))) (goodIn_sub (fun _ h => List.mem_append_left _ (List.mem_append_right _ h)) (by decide +kernel))
set_option maxRecDepth 20000 in
theorem gL_law_L_addDevice : GoodIn wsL_law (va_wsS RL 164 yL_addDevice wsL_addDevice) := goodIn_app (goodIn_of _ (by decide +kernel)) ggL_law_L_addDevice
set_option maxRecDepth 20000 in
theorem ggL_law_X10_addDevice : GoodIn wsL_law wsX10_addDevice := goodIn_r _ [845, 167, 728, 846, 112, 519, 520, 521, 5, 522, 128, 129, 130, 170, 171, 172, 173, 729, 730, 731, 732, 358, 114, 115, 127, 314, 315, 316, 317, 1126, 1127, 1128, 1129, 1130, 1131, 1132, 1133, 1134, 1135, 1136, 1137, 1138, 1139, 1140, 1141, 1142, 1143, 1144] (by decide +kernel) (by decide +kernel)
set_option maxRecDepth 20000 in
theorem gL_law_X10_addDevice : GoodIn wsL_law (wsV RL 166 RX10 yX10_addDevice wsX10_addDevice) := goodIn_app (goodIn_of _ (by decide +kernel)) ggL_law_X10_addDevice
set_option maxRecDepth 20000 in
theorem ggL_law_L_setTolerance : GoodIn wsL_law wsL_setTolerance := goodIn_ca (goodIn_ca (goodIn_r _ [849, 468, 135, 850, 851, 852, 2, 853, 17, 22, 576, 577, 578, 45, 579, 80, 478, 479, 480, 481, 482, 837, 838, 839, 141, 142, 143, 144, 145, 146, 147, 148, 709, 710, 711, 21, 712, 347, 713, 714, 715, 716, 717, 91, 718, 719, 720, 721, 722, 326, 327, 16, 328, 42, 46, 48, 329, 330, 331, 332, 67, 68, 69, 70, 333, 334, 335, 41, 336, 52, 337, 53, 54, 55, 56, 75, 338, 339, 340, 341, 60, 342, 61, 62, 81, 854, 855, 856, 857, 858, 590, 591, 592, 584, 1120, 1121, 1122, 1123, 1124, 1125, 1145, 1146, 1147, 1148, 1149, 1150, 1151, 1166, 1167, 1168, 1169, 1170, 1152, 1153, 1154, 1160, 1161, 1162, 1163, 1164, 1165] (by decide +kernel) (by decide +kernel)) (goodIn_sub (fun _ h => List.mem_append_right _ h) (by decide +kernel))) (goodIn_sub (fun _ h => List.mem_append_left _ (List.mem_append_left _ (List.mem_append_right _ h))) (by decide +kernel))
set_option maxRecDepth 20000 in
theorem gL_law_L_setTolerance : GoodIn wsL_law (va_wsS RL 167 yL_setTolerance wsL_setTolerance) := goodIn_app (goodIn_of _ (by decide +kernel)) ggL_law_L_setTolerance
set_option maxRecDepth 20000 in
theorem ggL_law_X10_setTolerance : GoodIn wsL_law wsX10_setTolerance := goodIn_r _ [862, 167, 846, 620, 621, 622, 5, 623, 112, 128, 129, 130, 170, 171, 172, 173, 729, 730, 731, 732, 358, 114, 115, 127, 863, 864, 865, 866, 1126, 1127, 1128, 1129, 1130, 1131, 1132, 1133, 1134, 1135, 1136, 1137, 1138, 1139, 1140, 1141, 1142, 1143, 1144] (by decide +kernel) (by decide +kernel)
set_option maxRecDepth 20000 in
theorem gL_law_X10_setTolerance : GoodIn wsL_law (wsV RL 169 RX10 yX10_setTolerance wsX10_setTolerance) := goodIn_app (goodIn_of _ (by decide +kernel)) ggL_law_X10_setTolerance
set_option maxRecDepth 20000 in
theorem ggL_law_L_set : GoodIn wsL_law wsL_set := goodIn_ca (goodIn_r _ [869, 135, 870, 871, 872, 2, 873, 22, 17, 874, 875, 876, 141, 142, 143, 144, 145, 146, 147, 148, 709, 710, 711, 21, 712, 347, 713, 714, 715, 716, 717, 91, 718, 719, 720, 721, 722, 326, 327, 16, 328, 42, 46, 48, 329, 330, 331, 332, 67, 68, 69, 70, 333, 334, 335, 41, 336, 52, 337, 53, 54, 55, 56, 75, 338, 339, 340, 45, 341, 60, 342, 61, 62, 80, 81, 877, 274, 275, 276, 1120, 1121, 1122, 1123, 1124, 1125, 1152, 1153, 1154, 1145, 1146, 1147, 1148, 1149, 1150, 1151, 1160, 1161, 1162, 1163, 1164, 1165, 1166, 1167, 1168, 1169, 1170] (by decide +kernel) (by decide +kernel)) (goodIn_sub (fun _ h => List.mem_append_left _ (List.mem_append_left _ (List.mem_append_right _ h))) (by decide +kernel))
set_option maxRecDepth 20000 in
theorem gL_law_L_set : GoodIn wsL_law (va_wsS RL 170 yL_set wsL_set) := goodIn_app (goodIn_of _ (by decide +kernel)) ggL_law_L_set
set_option maxRecDepth 20000 in
theorem ggL_law_X10_set : GoodIn wsL_law wsX10_set := goodIn_r _ [881, 167, 882, 883, 5, 884, 846, 885, 128, 129, 130, 170, 171, 172, 173, 729, 730, 731, 732, 358, 114, 115, 112, 127, 863, 864, 865, 866, 1126, 1127, 1128, 1129, 1130, 1131, 1132, 1133, 1134, 1135, 1136, 1137, 1138, 1139, 1140, 1141, 1142, 1143, 1144] (by decide +kernel) (by decide +kernel)
set_option maxRecDepth 20000 in
theorem gL_law_X10_set : GoodIn wsL_law (wsV RL 172 RX10 yX10_set wsX10_set) := goodIn_app (goodIn_of _ (by decide +kernel)) ggL_law_X10_set
set_option maxRecDepth 20000 in
theorem ggL_law_L_undo : GoodIn wsL_law wsL_undo := goodIn_ca (goodIn_r _ [888, 136, 889, 890, 891, 2, 892, 22, 17, 893, 894, 895, 21, 896, 347, 154, 155, 156, 157, 158, 897, 898, 899, 900, 714, 715, 716, 717, 91, 713, 718, 719, 720, 721, 722, 326, 327, 16, 328, 42, 46, 48, 329, 330, 331, 332, 67, 68, 69, 70, 333, 334, 335, 41, 336, 52, 337, 53, 54, 55, 56, 75, 338, 339, 340, 45, 341, 60, 342, 61, 62, 80, 81, 1120, 1121, 1122, 1123, 1124, 1125, 1152, 1153, 1154, 1145, 1146, 1147, 1148, 1149, 1150, 1151, 1160, 1161, 1162, 1163, 1164, 1165, 1166, 1167, 1168, 1169, 1170] (by decide +kernel) (by decide +kernel)) (goodIn_sub (fun _ h => List.mem_append_left _ (List.mem_append_right _ h)) (by decide +kernel))
set_option maxRecDepth 20000 in
theorem gL_law_L_undo : GoodIn wsL_law (va_wsS RL 173 yL_undo wsL_undo) := goodIn_app (goodIn_of _ (by decide +kernel)) ggL_law_L_undo
set_option maxRecDepth 20000 in
theorem ggL_law_X10_undo : GoodIn wsL_law wsX10_undo := goodIn_r _ [904, 167, 358, 112, 114, 115, 127, 170, 171, 172, 5, 173, 1126, 1127, 1128, 1129, 1130, 1131, 1132, 1133, 1134, 1135, 1136, 1137, 1138, 1139, 1140, 1141, 1142, 1143, 1144] (by decide +kernel) (by decide +kernel)
set_option maxRecDepth 20000 in
theorem gL_law_X10_undo : GoodIn wsL_law (wsV RL 175 RX10 yX10_undo wsX10_undo) := goodIn_app (goodIn_of _ (by decide +kernel)) ggL_law_X10_undo
set_option maxRecDepth 20000 in
theorem ggL_law_L_wouldBe : GoodIn wsL_law wsL_wouldBe := goodIn_ca (goodIn_r _ [907, 468, 908, 909, 910, 2, 911, 17, 473, 474, 475, 476, 477, 253, 254, 16, 255, 67, 478, 479, 480, 481, 482, 833, 834, 835, 836, 912, 913, 914, 915, 70, 68, 753, 612, 425, 613, 744, 745, 746, 747, 605, 484, 485, 486, 48, 252, 601, 602, 603, 604, 42, 606, 489, 490, 41, 491, 52, 391, 392, 393, 394, 75, 754, 755, 756, 757, 758, 759, 916, 917, 918, 919, 761, 762, 920, 764, 765, 1120, 1121, 1122, 1123, 1124, 1125, 1145, 1146, 1147, 1148, 1149, 1150, 1151, 1160, 1161, 1162, 1163, 1164, 1165] (by decide +kernel) (by decide +kernel)) (goodIn_sub (fun _ h => List.mem_append_right _ h) (by decide +kernel))
set_option maxRecDepth 20000 in
theorem gL_law_L_wouldBe : GoodIn wsL_law (va_wsS RL 176 yL_wouldBe wsL_wouldBe) := goodIn_app (goodIn_of _ (by decide +kernel)) ggL_law_L_wouldBe
set_option maxRecDepth 20000 in
theorem ggL_law_X10_wouldBe : GoodIn wsL_law wsX10_wouldBe := goodIn_r _ [924, 167, 112, 515, 516, 517, 5, 518, 125, 519, 520, 521, 522, 128, 129, 130, 170, 171, 172, 173, 311, 312, 313, 925, 926, 927, 928, 127, 445, 446, 447, 448, 628, 629, 630, 778, 779, 780, 781, 782, 783, 784, 785, 786, 1126, 1127, 1128, 1129, 1130, 1131, 1132, 1133, 1134, 1135, 1136, 1137, 1138, 1139, 1140, 1141, 1142, 1143, 1144] (by decide +kernel) (by decide +kernel)
set_option maxRecDepth 20000 in
theorem gL_law_X10_wouldBe : GoodIn wsL_law (wsV RL 178 RX10 yX10_wouldBe wsX10_wouldBe) := goodIn_app (goodIn_of _ (by decide +kernel)) ggL_law_X10_wouldBe
set_option maxRecDepth 20000 in
theorem ggL_law_L_handed : GoodIn wsL_law wsL_handed := goodIn_ca (goodIn_r _ [931, 468, 932, 933, 934, 2, 935, 17, 473, 474, 475, 476, 477, 253, 254, 16, 255, 67, 478, 479, 480, 481, 482, 833, 834, 835, 836, 936, 937, 938, 939, 70, 753, 612, 425, 613, 68, 601, 602, 603, 604, 42, 605, 484, 485, 486, 48, 252, 606, 489, 490, 41, 491, 52, 391, 392, 393, 394, 75, 754, 755, 756, 757, 758, 759, 916, 917, 918, 919, 761, 762, 920, 764, 765, 1120, 1121, 1122, 1123, 1124, 1125, 1145, 1146, 1147, 1148, 1149, 1150, 1151, 1160, 1161, 1162, 1163, 1164, 1165] (by decide +kernel) (by decide +kernel)) (goodIn_sub (fun _ h => List.mem_append_right _ h) (by decide +kernel))
set_option maxRecDepth 20000 in
theorem gL_law_L_handed : GoodIn wsL_law (va_wsS RL 179 yL_handed wsL_handed) := goodIn_app (goodIn_of _ (by decide +kernel)) ggL_law_L_handed
set_option maxRecDepth 20000 in
theorem ggL_law_X10_handed : GoodIn wsL_law wsX10_handed := goodIn_r _ [943, 167, 112, 127, 515, 516, 517, 5, 518, 125, 519, 520, 521, 522, 128, 129, 130, 170, 171, 172, 173, 311, 312, 313, 445, 446, 447, 448, 944, 945, 946, 947, 628, 629, 630, 778, 779, 780, 781, 782, 783, 784, 785, 786, 1126, 1127, 1128, 1129, 1130, 1131, 1132, 1133, 1134, 1135, 1136, 1137, 1138, 1139, 1140, 1141, 1142, 1143, 1144] (by decide +kernel) (by decide +kernel)
set_option maxRecDepth 20000 in
theorem gL_law_X10_handed : GoodIn wsL_law (wsV RL 181 RX10 yX10_handed wsX10_handed) := goodIn_app (goodIn_of _ (by decide +kernel)) ggL_law_X10_handed
set_option maxRecDepth 20000 in
theorem ggL_law_L_bestTeacher : GoodIn wsL_law wsL_bestTeacher := goodIn_ca (goodIn_r _ [950, 468, 951, 952, 953, 2, 954, 17, 833, 834, 835, 16, 836, 67, 478, 479, 480, 481, 482, 576, 577, 578, 45, 579, 80, 585, 586, 587, 588, 61, 584, 955, 956, 957, 958, 959, 913, 914, 915, 70, 68, 753, 612, 425, 613, 744, 745, 746, 747, 605, 484, 485, 486, 48, 252, 253, 254, 255, 601, 602, 603, 604, 42, 606, 489, 490, 41, 491, 52, 391, 392, 393, 394, 75, 754, 755, 756, 757, 758, 759, 916, 917, 918, 919, 761, 762, 920, 764, 765, 502, 503, 504, 505, 506, 507, 508, 509, 510, 1120, 1121, 1122, 1123, 1124, 1125, 1145, 1146, 1147, 1148, 1149, 1150, 1151, 1166, 1167, 1168, 1169, 1170, 1160, 1161, 1162, 1163, 1164, 1165] (by decide +kernel) (by decide +kernel)) (goodIn_sub (fun _ h => List.mem_append_right _ h) (by decide +kernel))
set_option maxRecDepth 20000 in
theorem gL_law_L_bestTeacher : GoodIn wsL_law (va_wsS RL 182 yL_bestTeacher wsL_bestTeacher) := goodIn_app (goodIn_of _ (by decide +kernel)) ggL_law_L_bestTeacher
set_option maxRecDepth 20000 in
theorem ggL_law_X10_bestTeacher : GoodIn wsL_law wsX10_bestTeacher := goodIn_r _ [963, 167, 112, 519, 520, 521, 5, 522, 128, 129, 130, 620, 621, 622, 623, 170, 171, 172, 173, 925, 926, 927, 928, 127, 311, 312, 313, 445, 446, 447, 448, 628, 629, 630, 778, 779, 780, 781, 782, 783, 784, 785, 786, 453, 454, 455, 456, 527, 528, 529, 1126, 1127, 1128, 1129, 1130, 1131, 1132, 1133, 1134, 1135, 1136, 1137, 1138, 1139, 1140, 1141, 1142, 1143, 1144] (by decide +kernel) (by decide +kernel)
set_option maxRecDepth 20000 in
theorem gL_law_X10_bestTeacher : GoodIn wsL_law (wsV RL 184 RX10 yX10_bestTeacher wsX10_bestTeacher) := goodIn_app (goodIn_of _ (by decide +kernel)) ggL_law_X10_bestTeacher
set_option maxRecDepth 20000 in
theorem ggL_law_L_leastTolerance : GoodIn wsL_law wsL_leastTolerance := goodIn_ca (goodIn_r _ [966, 468, 967, 968, 969, 2, 970, 17, 576, 577, 578, 45, 579, 80, 478, 479, 480, 481, 482, 585, 586, 587, 588, 61, 584, 971, 972, 973, 16, 974, 48, 42, 975, 439, 425, 440, 411, 412, 413, 41, 414, 415, 416, 417, 418, 387, 388, 389, 390, 55, 391, 392, 393, 394, 75, 419, 420, 421, 422, 423, 424, 426, 606, 489, 490, 491, 52, 502, 503, 504, 505, 506, 507, 508, 509, 510, 837, 838, 839, 141, 142, 143, 1120, 1121, 1122, 1123, 1124, 1125, 1145, 1146, 1147, 1148, 1149, 1150, 1151, 1166, 1167, 1168, 1169, 1170, 1160, 1161, 1162, 1163, 1164, 1165] (by decide +kernel) (by decide +kernel)) (goodIn_sub (fun _ h => List.mem_append_right _ h) (by decide +kernel))
set_option maxRecDepth 20000 in
theorem gL_law_L_leastTolerance : GoodIn wsL_law (va_wsS RL 185 yL_leastTolerance wsL_leastTolerance) := goodIn_app (goodIn_of _ (by decide +kernel)) ggL_law_L_leastTolerance
set_option maxRecDepth 20000 in
theorem ggL_law_X10_leastTolerance : GoodIn wsL_law wsX10_leastTolerance := goodIn_r _ [979, 167, 112, 620, 621, 622, 5, 623, 128, 129, 130, 170, 171, 172, 173, 461, 462, 463, 464, 445, 446, 447, 448, 453, 454, 455, 456, 527, 528, 529, 1126, 1127, 1128, 1129, 1130, 1131, 1132, 1133, 1134, 1135, 1136, 1137, 1138, 1139, 1140, 1141, 1142, 1143, 1144] (by decide +kernel) (by decide +kernel)
set_option maxRecDepth 20000 in
theorem gL_law_X10_leastTolerance : GoodIn wsL_law (wsV RL 187 RX10 yX10_leastTolerance wsX10_leastTolerance) := goodIn_app (goodIn_of _ (by decide +kernel)) ggL_law_X10_leastTolerance
set_option maxRecDepth 20000 in
theorem ggL_law_L_runScript : GoodIn wsL_law wsL_runScript := goodIn_ca (goodIn_r _ [982, 135, 983, 984, 985, 2, 986, 18, 17, 141, 142, 143, 144, 145, 146, 147, 148, 987, 212, 213, 214, 325, 326, 327, 16, 328, 42, 46, 48, 329, 330, 331, 332, 67, 68, 69, 70, 333, 334, 335, 41, 336, 52, 337, 53, 54, 55, 56, 75, 338, 339, 340, 45, 341, 60, 342, 61, 62, 80, 81, 988, 989, 990, 991, 992, 993, 994, 995, 996, 997, 998, 999, 253, 254, 255, 1000, 741, 742, 743, 744, 745, 746, 747, 605, 484, 485, 486, 252, 748, 245, 246, 247, 1001, 750, 751, 752, 753, 612, 425, 613, 754, 755, 756, 757, 758, 759, 760, 761, 762, 606, 489, 490, 491, 391, 392, 393, 394, 763, 764, 765, 240, 241, 242, 243, 244, 248, 249, 250, 251, 1002, 1003, 1004, 1005, 1006, 811, 812, 813, 601, 602, 603, 604, 685, 686, 687, 688, 689, 608, 609, 610, 611, 584, 577, 578, 579, 614, 505, 506, 507, 508, 509, 510, 814, 815, 816, 817, 1007, 1008, 1009, 1010, 795, 796, 797, 1011, 1012, 1013, 875, 876, 1014, 274, 275, 276, 1015, 1016, 1017, 1018, 838, 839, 1019, 855, 856, 857, 858, 590, 591, 592, 1020, 1021, 1022, 1023, 1024, 416, 417, 418, 387, 388, 389, 390, 1025, 1026, 1027, 1028, 498, 499, 500, 399, 400, 401, 402, 1029, 1030, 1031, 1032, 607, 1033, 1034, 1035, 1036, 594, 595, 596, 1120, 1121, 1122, 1123, 1124, 1125, 1145, 1146, 1147, 1148, 1149, 1150, 1151, 1160, 1161, 1162, 1163, 1164, 1165, 1166, 1167, 1168, 1169, 1170] (by decide +kernel) (by decide +kernel)) (goodIn_sub (fun _ h => List.mem_append_left _ (List.mem_append_left _ (List.mem_append_right _ h))) (by decide +kernel))
set_option maxRecDepth 20000 in
theorem gL_law_L_runScript : GoodIn wsL_law (va_wsS RL 190 yL_runScript wsL_runScript) := goodIn_app (goodIn_of _ (by decide +kernel)) ggL_law_L_runScript
set_option maxRecDepth 20000 in
theorem ggL_law_X10_runScript : GoodIn wsL_law wsX10_runScript := goodIn_r _ [1040, 167, 1041, 846, 128, 129, 5, 130, 170, 171, 172, 173, 1042, 1043, 1044, 1045, 113, 112, 127, 1046, 1047, 1048, 1049, 1050, 125, 1051, 1052, 1053, 1054, 515, 516, 517, 518, 519, 520, 521, 522, 770, 771, 772, 773, 311, 312, 313, 774, 775, 776, 777, 628, 629, 630, 778, 779, 780, 781, 782, 783, 445, 446, 447, 448, 784, 785, 786, 307, 308, 309, 310, 822, 823, 824, 825, 694, 695, 696, 697, 624, 625, 626, 627, 453, 454, 455, 456, 527, 528, 529, 882, 883, 884, 885, 620, 621, 622, 623, 449, 450, 451, 452, 523, 524, 525, 526, 1055, 1056, 1057, 1058, 1126, 1127, 1128, 1129, 1130, 1131, 1132, 1133, 1134, 1135, 1136, 1137, 1138, 1139, 1140, 1141, 1142, 1143, 1144] (by decide +kernel) (by decide +kernel)
set_option maxRecDepth 20000 in
theorem gL_law_X10_runScript : GoodIn wsL_law (wsV RL 193 RX10 yX10_runScript wsX10_runScript) := goodIn_app (goodIn_of _ (by decide +kernel)) ggL_law_X10_runScript
set_option maxRecDepth 20000 in
theorem ggL_law_L_simulate : GoodIn wsL_law wsL_simulate := goodIn_ca (goodIn_ca (goodIn_r _ [1061, 468, 135, 1062, 1063, 1064, 2, 1065, 17, 473, 474, 475, 476, 477, 253, 254, 16, 255, 67, 478, 479, 480, 481, 482, 141, 142, 143, 144, 145, 146, 147, 148, 1066, 602, 603, 604, 42, 605, 484, 485, 486, 48, 252, 606, 489, 490, 41, 491, 52, 391, 392, 393, 394, 75, 1067, 1068, 1069, 1070, 68, 754, 755, 756, 757, 758, 759, 916, 917, 918, 919, 761, 762, 920, 764, 765, 502, 503, 504, 505, 506, 507, 508, 509, 510, 1120, 1121, 1122, 1123, 1124, 1125, 1145, 1146, 1147, 1148, 1149, 1150, 1151, 1160, 1161, 1162, 1163, 1164, 1165] (by decide +kernel) (by decide +kernel)) (goodIn_sub (fun _ h => List.mem_append_right _ h) (by decide +kernel))) (goodIn_sub (fun _ h => List.mem_append_left _ (List.mem_append_left _ (List.mem_append_right _ h))) (by decide +kernel))
set_option maxRecDepth 20000 in
theorem gL_law_L_simulate : GoodIn wsL_law (va_wsS RL 194 yL_simulate wsL_simulate) := goodIn_app (goodIn_of _ (by decide +kernel)) ggL_law_L_simulate
set_option maxRecDepth 20000 in
theorem ggL_law_X10_simulate : GoodIn wsL_law wsX10_simulate := goodIn_r _ [1074, 167, 1075, 112, 127, 515, 516, 517, 5, 518, 125, 519, 520, 521, 522, 128, 129, 130, 170, 171, 172, 173, 311, 312, 313, 445, 446, 447, 448, 944, 945, 946, 947, 628, 629, 630, 778, 779, 780, 781, 782, 783, 784, 785, 786, 527, 528, 529, 1126, 1127, 1128, 1129, 1130, 1131, 1132, 1133, 1134, 1135, 1136, 1137, 1138, 1139, 1140, 1141, 1142, 1143, 1144] (by decide +kernel) (by decide +kernel)
set_option maxRecDepth 20000 in
theorem gL_law_X10_simulate : GoodIn wsL_law (wsV RL 197 RX10 yX10_simulate wsX10_simulate) := goodIn_app (goodIn_of _ (by decide +kernel)) ggL_law_X10_simulate
set_option maxRecDepth 20000 in
theorem ggL_law_L_save : GoodIn wsL_law wsL_save := goodIn_ca (goodIn_r _ [1078, 468, 1079, 1080, 1081, 2, 1082, 26, 17, 1083, 1084, 1085, 25, 1086, 478, 479, 480, 481, 482, 1087, 1088, 1089, 1090, 352, 1091, 1092, 1093, 1094, 98, 1095, 1096, 326, 327, 16, 328, 42, 46, 48, 329, 330, 331, 332, 67, 68, 69, 70, 333, 334, 335, 41, 336, 52, 337, 53, 54, 55, 56, 75, 338, 339, 340, 45, 341, 60, 342, 61, 62, 80, 81, 353, 225, 226, 227, 1120, 1121, 1122, 1123, 1124, 1125, 1145, 1146, 1147, 1148, 1149, 1150, 1151, 1155, 1156, 1160, 1161, 1162, 1163, 1164, 1165, 1166, 1167, 1168, 1169, 1170] (by decide +kernel) (by decide +kernel)) (goodIn_sub (fun _ h => List.mem_append_right _ h) (by decide +kernel))
set_option maxRecDepth 20000 in
theorem gL_law_L_save : GoodIn wsL_law (va_wsS RL 198 yL_save wsL_save) := goodIn_app (goodIn_of _ (by decide +kernel)) ggL_law_L_save
set_option maxRecDepth 20000 in
theorem ggL_law_X10_save : GoodIn wsL_law wsX10_save := goodIn_r _ [1100, 167, 116, 112, 117, 127, 119, 128, 129, 5, 130, 170, 171, 172, 173, 1126, 1127, 1128, 1129, 1130, 1131, 1132, 1133, 1134, 1135, 1136, 1137, 1138, 1139, 1140, 1141, 1142, 1143, 1144] (by decide +kernel) (by decide +kernel)
set_option maxRecDepth 20000 in
theorem gL_law_X10_save : GoodIn wsL_law (wsV RL 200 RX10 yX10_save wsX10_save) := goodIn_app (goodIn_of _ (by decide +kernel)) ggL_law_X10_save
set_option maxRecDepth 20000 in
theorem ggL_law_L_restore : GoodIn wsL_law wsL_restore := goodIn_ca (goodIn_ca (goodIn_r _ [1103, 468, 136, 1104, 1105, 1106, 2, 1107, 26, 17, 22, 1083, 1084, 1085, 25, 1086, 478, 479, 480, 481, 482, 1108, 1109, 1110, 1111, 352, 1095, 154, 155, 156, 157, 158, 1112, 1113, 1114, 1115, 1091, 1092, 1093, 1094, 98, 1096, 326, 327, 16, 328, 42, 46, 48, 329, 330, 331, 332, 67, 68, 69, 70, 333, 334, 335, 41, 336, 52, 337, 53, 54, 55, 56, 75, 338, 339, 340, 45, 341, 60, 342, 61, 62, 80, 81, 343, 344, 345, 21, 346, 347, 353, 225, 226, 227, 1120, 1121, 1122, 1123, 1124, 1125, 1145, 1146, 1147, 1148, 1149, 1150, 1151, 1155, 1156, 1160, 1161, 1162, 1163, 1164, 1165, 1166, 1167, 1168, 1169, 1170, 1152, 1153, 1154] (by decide +kernel) (by decide +kernel)) (goodIn_sub (fun _ h => List.mem_append_right _ h) (by decide +kernel))) (goodIn_sub (fun _ h => List.mem_append_left _ (List.mem_append_right _ h)) (by decide +kernel))
set_option maxRecDepth 20000 in
theorem gL_law_L_restore : GoodIn wsL_law (va_wsS RL 201 yL_restore wsL_restore) := goodIn_app (goodIn_of _ (by decide +kernel)) ggL_law_L_restore
set_option maxRecDepth 20000 in
theorem ggL_law_X10_restore : GoodIn wsL_law wsX10_restore := goodIn_r _ [1119, 167, 119, 112, 116, 117, 127, 358, 128, 129, 5, 130, 170, 171, 172, 173, 1126, 1127, 1128, 1129, 1130, 1131, 1132, 1133, 1134, 1135, 1136, 1137, 1138, 1139, 1140, 1141, 1142, 1143, 1144] (by decide +kernel) (by decide +kernel)
set_option maxRecDepth 20000 in
theorem gL_law_X10_restore : GoodIn wsL_law (wsV RL 203 RX10 yX10_restore wsX10_restore) := goodIn_app (goodIn_of _ (by decide +kernel)) ggL_law_X10_restore
theorem dL_law_0 : decode cL_law 0 = .ok (.new 8, 3) := by decide +kernel
theorem dL_law_3 : decode cL_law 3 = .ok (.dup, 1) := by decide +kernel
theorem dL_law_4 : decode cL_law 4 = .ok (.invokespecial 100, 3) := by decide +kernel
theorem dL_law_7 : decode cL_law 7 = .ok (.astore_n 1, 1) := by decide +kernel
theorem dL_law_8 : decode cL_law 8 = .ok (.new 101, 3) := by decide +kernel
theorem dL_law_11 : decode cL_law 11 = .ok (.dup, 1) := by decide +kernel
theorem dL_law_12 : decode cL_law 12 = .ok (.invokespecial 103, 3) := by decide +kernel
theorem dL_law_15 : decode cL_law 15 = .ok (.astore_n 2, 1) := by decide +kernel
theorem dL_law_16 : decode cL_law 16 = .ok (.iconst 1, 1) := by decide +kernel
theorem dL_law_17 : decode cL_law 17 = .ok (.newarray .long, 2) := by decide +kernel
theorem dL_law_19 : decode cL_law 19 = .ok (.astore_n 3, 1) := by decide +kernel
theorem dL_law_20 : decode cL_law 20 = .ok (.iconst 0, 1) := by decide +kernel
theorem dL_law_21 : decode cL_law 21 = .ok (.istore 4, 2) := by decide +kernel
theorem dL_law_23 : decode cL_law 23 = .ok (.iload 4, 2) := by decide +kernel
theorem dL_law_25 : decode cL_law 25 = .ok (.aload_n 0, 1) := by decide +kernel
theorem dL_law_26 : decode cL_law 26 = .ok (.arraylength, 1) := by decide +kernel
theorem dL_law_27 : decode cL_law 27 = .ok (.bipush 6, 2) := by decide +kernel
theorem dL_law_29 : decode cL_law 29 = .ok (.isub, 1) := by decide +kernel
theorem dL_law_30 : decode cL_law 30 = .ok (.if_icmp .gt 2038, 3) := by decide +kernel
theorem dL_law_33 : decode cL_law 33 = .ok (.aload_n 0, 1) := by decide +kernel
theorem dL_law_34 : decode cL_law 34 = .ok (.iload 4, 2) := by decide +kernel
theorem dL_law_36 : decode cL_law 36 = .ok (.iaload, 1) := by decide +kernel
theorem dL_law_37 : decode cL_law 37 = .ok (.bipush 31, 2) := by decide +kernel
theorem dL_law_39 : decode cL_law 39 = .ok (.iand, 1) := by decide +kernel
theorem dL_law_40 : decode cL_law 40 = .ok (.tableswitch 2022 0 27 #[128, 184, 197, 210, 254, 310, 390, 458, 526, 606, 674, 766, 834, 914, 1006, 1074, 1142, 1222, 1290, 1358, 1402, 1482, 1562, 1630, 1686, 1786, 1910, 1966], 128) := by decide +kernel
theorem dL_law_168 : decode cL_law 168 = .ok (.aload_n 1, 1) := by decide +kernel
theorem dL_law_169 : decode cL_law 169 = .ok (.aload_n 0, 1) := by decide +kernel
theorem dL_law_170 : decode cL_law 170 = .ok (.iload 4, 2) := by decide +kernel
theorem dL_law_172 : decode cL_law 172 = .ok (.iconst 1, 1) := by decide +kernel
theorem dL_law_173 : decode cL_law 173 = .ok (.iadd, 1) := by decide +kernel
theorem dL_law_174 : decode cL_law 174 = .ok (.iaload, 1) := by decide +kernel
theorem dL_law_175 : decode cL_law 175 = .ok (.aload_n 3, 1) := by decide +kernel
theorem dL_law_176 : decode cL_law 176 = .ok (.invokestatic 104, 3) := by decide +kernel
theorem dL_law_179 : decode cL_law 179 = .ok (.istore 5, 2) := by decide +kernel
theorem dL_law_181 : decode cL_law 181 = .ok (.aload_n 2, 1) := by decide +kernel
theorem dL_law_182 : decode cL_law 182 = .ok (.aload_n 0, 1) := by decide +kernel
theorem dL_law_183 : decode cL_law 183 = .ok (.iload 4, 2) := by decide +kernel
theorem dL_law_185 : decode cL_law 185 = .ok (.iconst 1, 1) := by decide +kernel
theorem dL_law_186 : decode cL_law 186 = .ok (.iadd, 1) := by decide +kernel
theorem dL_law_187 : decode cL_law 187 = .ok (.iaload, 1) := by decide +kernel
theorem dL_law_188 : decode cL_law 188 = .ok (.invokevirtual 109, 3) := by decide +kernel
theorem dL_law_191 : decode cL_law 191 = .ok (.istore 6, 2) := by decide +kernel
theorem dL_law_193 : decode cL_law 193 = .ok (.aload_n 2, 1) := by decide +kernel
theorem dL_law_194 : decode cL_law 194 = .ok (.invokevirtual 110, 3) := by decide +kernel
theorem dL_law_197 : decode cL_law 197 = .ok (.iload 5, 2) := by decide +kernel
theorem dL_law_199 : decode cL_law 199 = .ok (.if_icmp .eq 5, 3) := by decide +kernel
theorem dL_law_202 : decode cL_law 202 = .ok (.iconst 0, 1) := by decide +kernel
theorem dL_law_203 : decode cL_law 203 = .ok (.ireturn, 1) := by decide +kernel
theorem dL_law_204 : decode cL_law 204 = .ok (.iload 5, 2) := by decide +kernel
theorem dL_law_206 : decode cL_law 206 = .ok (.ifCond .ne 15, 3) := by decide +kernel
theorem dL_law_209 : decode cL_law 209 = .ok (.aload_n 3, 1) := by decide +kernel
theorem dL_law_210 : decode cL_law 210 = .ok (.iconst 0, 1) := by decide +kernel
theorem dL_law_211 : decode cL_law 211 = .ok (.laload, 1) := by decide +kernel
theorem dL_law_212 : decode cL_law 212 = .ok (.iload 6, 2) := by decide +kernel
theorem dL_law_214 : decode cL_law 214 = .ok (.i2l, 1) := by decide +kernel
theorem dL_law_215 : decode cL_law 215 = .ok (.lcmp, 1) := by decide +kernel
theorem dL_law_216 : decode cL_law 216 = .ok (.ifCond .eq 5, 3) := by decide +kernel
theorem dL_law_219 : decode cL_law 219 = .ok (.iconst 0, 1) := by decide +kernel
theorem dL_law_220 : decode cL_law 220 = .ok (.ireturn, 1) := by decide +kernel
theorem dL_law_221 : decode cL_law 221 = .ok (.goto 1841, 3) := by decide +kernel
theorem dL_law_224 : decode cL_law 224 = .ok (.aload_n 1, 1) := by decide +kernel
theorem dL_law_225 : decode cL_law 225 = .ok (.invokevirtual 113, 3) := by decide +kernel
theorem dL_law_228 : decode cL_law 228 = .ok (.aload_n 2, 1) := by decide +kernel
theorem dL_law_229 : decode cL_law 229 = .ok (.invokevirtual 116, 3) := by decide +kernel
theorem dL_law_232 : decode cL_law 232 = .ok (.if_icmp .eq 1830, 3) := by decide +kernel
theorem dL_law_235 : decode cL_law 235 = .ok (.iconst 0, 1) := by decide +kernel
theorem dL_law_236 : decode cL_law 236 = .ok (.ireturn, 1) := by decide +kernel
theorem dL_law_237 : decode cL_law 237 = .ok (.aload_n 1, 1) := by decide +kernel
theorem dL_law_238 : decode cL_law 238 = .ok (.invokevirtual 117, 3) := by decide +kernel
theorem dL_law_241 : decode cL_law 241 = .ok (.aload_n 2, 1) := by decide +kernel
theorem dL_law_242 : decode cL_law 242 = .ok (.invokevirtual 120, 3) := by decide +kernel
theorem dL_law_245 : decode cL_law 245 = .ok (.if_icmp .eq 1817, 3) := by decide +kernel
theorem dL_law_248 : decode cL_law 248 = .ok (.iconst 0, 1) := by decide +kernel
theorem dL_law_249 : decode cL_law 249 = .ok (.ireturn, 1) := by decide +kernel
theorem dL_law_250 : decode cL_law 250 = .ok (.aload_n 1, 1) := by decide +kernel
theorem dL_law_251 : decode cL_law 251 = .ok (.aload_n 3, 1) := by decide +kernel
theorem dL_law_252 : decode cL_law 252 = .ok (.invokestatic 121, 3) := by decide +kernel
theorem dL_law_255 : decode cL_law 255 = .ok (.istore 5, 2) := by decide +kernel
theorem dL_law_257 : decode cL_law 257 = .ok (.aload_n 2, 1) := by decide +kernel
theorem dL_law_258 : decode cL_law 258 = .ok (.invokevirtual 124, 3) := by decide +kernel
theorem dL_law_261 : decode cL_law 261 = .ok (.istore 6, 2) := by decide +kernel
theorem dL_law_263 : decode cL_law 263 = .ok (.aload_n 2, 1) := by decide +kernel
theorem dL_law_264 : decode cL_law 264 = .ok (.invokevirtual 110, 3) := by decide +kernel
theorem dL_law_267 : decode cL_law 267 = .ok (.iload 5, 2) := by decide +kernel
theorem dL_law_269 : decode cL_law 269 = .ok (.if_icmp .eq 5, 3) := by decide +kernel
theorem dL_law_272 : decode cL_law 272 = .ok (.iconst 0, 1) := by decide +kernel
theorem dL_law_273 : decode cL_law 273 = .ok (.ireturn, 1) := by decide +kernel
theorem dL_law_274 : decode cL_law 274 = .ok (.iload 5, 2) := by decide +kernel
theorem dL_law_276 : decode cL_law 276 = .ok (.ifCond .ne 15, 3) := by decide +kernel
theorem dL_law_279 : decode cL_law 279 = .ok (.aload_n 3, 1) := by decide +kernel
theorem dL_law_280 : decode cL_law 280 = .ok (.iconst 0, 1) := by decide +kernel
theorem dL_law_281 : decode cL_law 281 = .ok (.laload, 1) := by decide +kernel
theorem dL_law_282 : decode cL_law 282 = .ok (.iload 6, 2) := by decide +kernel
theorem dL_law_284 : decode cL_law 284 = .ok (.i2l, 1) := by decide +kernel
theorem dL_law_285 : decode cL_law 285 = .ok (.lcmp, 1) := by decide +kernel
theorem dL_law_286 : decode cL_law 286 = .ok (.ifCond .eq 5, 3) := by decide +kernel
theorem dL_law_289 : decode cL_law 289 = .ok (.iconst 0, 1) := by decide +kernel
theorem dL_law_290 : decode cL_law 290 = .ok (.ireturn, 1) := by decide +kernel
theorem dL_law_291 : decode cL_law 291 = .ok (.goto 1771, 3) := by decide +kernel
theorem dL_law_294 : decode cL_law 294 = .ok (.aload_n 1, 1) := by decide +kernel
theorem dL_law_295 : decode cL_law 295 = .ok (.aload_n 0, 1) := by decide +kernel
theorem dL_law_296 : decode cL_law 296 = .ok (.iload 4, 2) := by decide +kernel
theorem dL_law_298 : decode cL_law 298 = .ok (.iconst 1, 1) := by decide +kernel
theorem dL_law_299 : decode cL_law 299 = .ok (.iadd, 1) := by decide +kernel
theorem dL_law_300 : decode cL_law 300 = .ok (.iaload, 1) := by decide +kernel
theorem dL_law_301 : decode cL_law 301 = .ok (.aload_n 3, 1) := by decide +kernel
theorem dL_law_302 : decode cL_law 302 = .ok (.invokestatic 125, 3) := by decide +kernel
theorem dL_law_305 : decode cL_law 305 = .ok (.istore 5, 2) := by decide +kernel
theorem dL_law_307 : decode cL_law 307 = .ok (.aload_n 2, 1) := by decide +kernel
theorem dL_law_308 : decode cL_law 308 = .ok (.aload_n 0, 1) := by decide +kernel
theorem dL_law_309 : decode cL_law 309 = .ok (.iload 4, 2) := by decide +kernel
theorem dL_law_311 : decode cL_law 311 = .ok (.iconst 1, 1) := by decide +kernel
theorem dL_law_312 : decode cL_law 312 = .ok (.iadd, 1) := by decide +kernel
theorem dL_law_313 : decode cL_law 313 = .ok (.iaload, 1) := by decide +kernel
theorem dL_law_314 : decode cL_law 314 = .ok (.invokevirtual 127, 3) := by decide +kernel
theorem dL_law_317 : decode cL_law 317 = .ok (.istore 6, 2) := by decide +kernel
theorem dL_law_319 : decode cL_law 319 = .ok (.aload_n 2, 1) := by decide +kernel
theorem dL_law_320 : decode cL_law 320 = .ok (.invokevirtual 110, 3) := by decide +kernel
theorem dL_law_323 : decode cL_law 323 = .ok (.iload 5, 2) := by decide +kernel
theorem dL_law_325 : decode cL_law 325 = .ok (.if_icmp .eq 5, 3) := by decide +kernel
theorem dL_law_328 : decode cL_law 328 = .ok (.iconst 0, 1) := by decide +kernel
theorem dL_law_329 : decode cL_law 329 = .ok (.ireturn, 1) := by decide +kernel
theorem dL_law_330 : decode cL_law 330 = .ok (.iload 5, 2) := by decide +kernel
theorem dL_law_332 : decode cL_law 332 = .ok (.ifCond .ne 15, 3) := by decide +kernel
theorem dL_law_335 : decode cL_law 335 = .ok (.aload_n 3, 1) := by decide +kernel
theorem dL_law_336 : decode cL_law 336 = .ok (.iconst 0, 1) := by decide +kernel
theorem dL_law_337 : decode cL_law 337 = .ok (.laload, 1) := by decide +kernel
theorem dL_law_338 : decode cL_law 338 = .ok (.iload 6, 2) := by decide +kernel
theorem dL_law_340 : decode cL_law 340 = .ok (.i2l, 1) := by decide +kernel
theorem dL_law_341 : decode cL_law 341 = .ok (.lcmp, 1) := by decide +kernel
theorem dL_law_342 : decode cL_law 342 = .ok (.ifCond .eq 5, 3) := by decide +kernel
theorem dL_law_345 : decode cL_law 345 = .ok (.iconst 0, 1) := by decide +kernel
theorem dL_law_346 : decode cL_law 346 = .ok (.ireturn, 1) := by decide +kernel
theorem dL_law_347 : decode cL_law 347 = .ok (.goto 1715, 3) := by decide +kernel
theorem dL_law_350 : decode cL_law 350 = .ok (.aload_n 1, 1) := by decide +kernel
theorem dL_law_351 : decode cL_law 351 = .ok (.aload_n 0, 1) := by decide +kernel
theorem dL_law_352 : decode cL_law 352 = .ok (.iload 4, 2) := by decide +kernel
theorem dL_law_354 : decode cL_law 354 = .ok (.iconst 1, 1) := by decide +kernel
theorem dL_law_355 : decode cL_law 355 = .ok (.iadd, 1) := by decide +kernel
theorem dL_law_356 : decode cL_law 356 = .ok (.iaload, 1) := by decide +kernel
theorem dL_law_357 : decode cL_law 357 = .ok (.aload_n 0, 1) := by decide +kernel
theorem dL_law_358 : decode cL_law 358 = .ok (.iload 4, 2) := by decide +kernel
theorem dL_law_360 : decode cL_law 360 = .ok (.iconst 2, 1) := by decide +kernel
theorem dL_law_361 : decode cL_law 361 = .ok (.iadd, 1) := by decide +kernel
theorem dL_law_362 : decode cL_law 362 = .ok (.iaload, 1) := by decide +kernel
theorem dL_law_363 : decode cL_law 363 = .ok (.aload_n 0, 1) := by decide +kernel
theorem dL_law_364 : decode cL_law 364 = .ok (.iload 4, 2) := by decide +kernel
theorem dL_law_366 : decode cL_law 366 = .ok (.iconst 3, 1) := by decide +kernel
theorem dL_law_367 : decode cL_law 367 = .ok (.iadd, 1) := by decide +kernel
theorem dL_law_368 : decode cL_law 368 = .ok (.iaload, 1) := by decide +kernel
theorem dL_law_369 : decode cL_law 369 = .ok (.aload_n 3, 1) := by decide +kernel
theorem dL_law_370 : decode cL_law 370 = .ok (.invokestatic 128, 3) := by decide +kernel
theorem dL_law_373 : decode cL_law 373 = .ok (.istore 5, 2) := by decide +kernel
theorem dL_law_375 : decode cL_law 375 = .ok (.aload_n 2, 1) := by decide +kernel
theorem dL_law_376 : decode cL_law 376 = .ok (.aload_n 0, 1) := by decide +kernel
theorem dL_law_377 : decode cL_law 377 = .ok (.iload 4, 2) := by decide +kernel
theorem dL_law_379 : decode cL_law 379 = .ok (.iconst 1, 1) := by decide +kernel
theorem dL_law_380 : decode cL_law 380 = .ok (.iadd, 1) := by decide +kernel
theorem dL_law_381 : decode cL_law 381 = .ok (.iaload, 1) := by decide +kernel
theorem dL_law_382 : decode cL_law 382 = .ok (.aload_n 0, 1) := by decide +kernel
theorem dL_law_383 : decode cL_law 383 = .ok (.iload 4, 2) := by decide +kernel
theorem dL_law_385 : decode cL_law 385 = .ok (.iconst 2, 1) := by decide +kernel
theorem dL_law_386 : decode cL_law 386 = .ok (.iadd, 1) := by decide +kernel
theorem dL_law_387 : decode cL_law 387 = .ok (.iaload, 1) := by decide +kernel
theorem dL_law_388 : decode cL_law 388 = .ok (.aload_n 0, 1) := by decide +kernel
theorem dL_law_389 : decode cL_law 389 = .ok (.iload 4, 2) := by decide +kernel
theorem dL_law_391 : decode cL_law 391 = .ok (.iconst 3, 1) := by decide +kernel
theorem dL_law_392 : decode cL_law 392 = .ok (.iadd, 1) := by decide +kernel
theorem dL_law_393 : decode cL_law 393 = .ok (.iaload, 1) := by decide +kernel
theorem dL_law_394 : decode cL_law 394 = .ok (.invokevirtual 131, 3) := by decide +kernel
theorem dL_law_397 : decode cL_law 397 = .ok (.istore 6, 2) := by decide +kernel
theorem dL_law_399 : decode cL_law 399 = .ok (.aload_n 2, 1) := by decide +kernel
theorem dL_law_400 : decode cL_law 400 = .ok (.invokevirtual 110, 3) := by decide +kernel
theorem dL_law_403 : decode cL_law 403 = .ok (.iload 5, 2) := by decide +kernel
theorem dL_law_405 : decode cL_law 405 = .ok (.if_icmp .eq 5, 3) := by decide +kernel
theorem dL_law_408 : decode cL_law 408 = .ok (.iconst 0, 1) := by decide +kernel
theorem dL_law_409 : decode cL_law 409 = .ok (.ireturn, 1) := by decide +kernel
theorem dL_law_410 : decode cL_law 410 = .ok (.iload 5, 2) := by decide +kernel
theorem dL_law_412 : decode cL_law 412 = .ok (.ifCond .ne 15, 3) := by decide +kernel
theorem dL_law_415 : decode cL_law 415 = .ok (.aload_n 3, 1) := by decide +kernel
theorem dL_law_416 : decode cL_law 416 = .ok (.iconst 0, 1) := by decide +kernel
theorem dL_law_417 : decode cL_law 417 = .ok (.laload, 1) := by decide +kernel
theorem dL_law_418 : decode cL_law 418 = .ok (.iload 6, 2) := by decide +kernel
theorem dL_law_420 : decode cL_law 420 = .ok (.i2l, 1) := by decide +kernel
theorem dL_law_421 : decode cL_law 421 = .ok (.lcmp, 1) := by decide +kernel
theorem dL_law_422 : decode cL_law 422 = .ok (.ifCond .eq 5, 3) := by decide +kernel
theorem dL_law_425 : decode cL_law 425 = .ok (.iconst 0, 1) := by decide +kernel
theorem dL_law_426 : decode cL_law 426 = .ok (.ireturn, 1) := by decide +kernel
theorem dL_law_427 : decode cL_law 427 = .ok (.goto 1635, 3) := by decide +kernel
theorem dL_law_430 : decode cL_law 430 = .ok (.aload_n 1, 1) := by decide +kernel
theorem dL_law_431 : decode cL_law 431 = .ok (.aload_n 0, 1) := by decide +kernel
theorem dL_law_432 : decode cL_law 432 = .ok (.iload 4, 2) := by decide +kernel
theorem dL_law_434 : decode cL_law 434 = .ok (.iconst 1, 1) := by decide +kernel
theorem dL_law_435 : decode cL_law 435 = .ok (.iadd, 1) := by decide +kernel
theorem dL_law_436 : decode cL_law 436 = .ok (.iaload, 1) := by decide +kernel
theorem dL_law_437 : decode cL_law 437 = .ok (.aload_n 0, 1) := by decide +kernel
theorem dL_law_438 : decode cL_law 438 = .ok (.iload 4, 2) := by decide +kernel
theorem dL_law_440 : decode cL_law 440 = .ok (.iconst 2, 1) := by decide +kernel
theorem dL_law_441 : decode cL_law 441 = .ok (.iadd, 1) := by decide +kernel
theorem dL_law_442 : decode cL_law 442 = .ok (.iaload, 1) := by decide +kernel
theorem dL_law_443 : decode cL_law 443 = .ok (.aload_n 3, 1) := by decide +kernel
theorem dL_law_444 : decode cL_law 444 = .ok (.invokestatic 132, 3) := by decide +kernel
theorem dL_law_447 : decode cL_law 447 = .ok (.istore 5, 2) := by decide +kernel
theorem dL_law_449 : decode cL_law 449 = .ok (.aload_n 2, 1) := by decide +kernel
theorem dL_law_450 : decode cL_law 450 = .ok (.aload_n 0, 1) := by decide +kernel
theorem dL_law_451 : decode cL_law 451 = .ok (.iload 4, 2) := by decide +kernel
theorem dL_law_453 : decode cL_law 453 = .ok (.iconst 1, 1) := by decide +kernel
theorem dL_law_454 : decode cL_law 454 = .ok (.iadd, 1) := by decide +kernel
theorem dL_law_455 : decode cL_law 455 = .ok (.iaload, 1) := by decide +kernel
theorem dL_law_456 : decode cL_law 456 = .ok (.aload_n 0, 1) := by decide +kernel
theorem dL_law_457 : decode cL_law 457 = .ok (.iload 4, 2) := by decide +kernel
theorem dL_law_459 : decode cL_law 459 = .ok (.iconst 2, 1) := by decide +kernel
theorem dL_law_460 : decode cL_law 460 = .ok (.iadd, 1) := by decide +kernel
theorem dL_law_461 : decode cL_law 461 = .ok (.iaload, 1) := by decide +kernel
theorem dL_law_462 : decode cL_law 462 = .ok (.invokevirtual 135, 3) := by decide +kernel
theorem dL_law_465 : decode cL_law 465 = .ok (.istore 6, 2) := by decide +kernel
theorem dL_law_467 : decode cL_law 467 = .ok (.aload_n 2, 1) := by decide +kernel
theorem dL_law_468 : decode cL_law 468 = .ok (.invokevirtual 110, 3) := by decide +kernel
theorem dL_law_471 : decode cL_law 471 = .ok (.iload 5, 2) := by decide +kernel
theorem dL_law_473 : decode cL_law 473 = .ok (.if_icmp .eq 5, 3) := by decide +kernel
theorem dL_law_476 : decode cL_law 476 = .ok (.iconst 0, 1) := by decide +kernel
theorem dL_law_477 : decode cL_law 477 = .ok (.ireturn, 1) := by decide +kernel
theorem dL_law_478 : decode cL_law 478 = .ok (.iload 5, 2) := by decide +kernel
theorem dL_law_480 : decode cL_law 480 = .ok (.ifCond .ne 15, 3) := by decide +kernel
theorem dL_law_483 : decode cL_law 483 = .ok (.aload_n 3, 1) := by decide +kernel
theorem dL_law_484 : decode cL_law 484 = .ok (.iconst 0, 1) := by decide +kernel
theorem dL_law_485 : decode cL_law 485 = .ok (.laload, 1) := by decide +kernel
theorem dL_law_486 : decode cL_law 486 = .ok (.iload 6, 2) := by decide +kernel
theorem dL_law_488 : decode cL_law 488 = .ok (.i2l, 1) := by decide +kernel
theorem dL_law_489 : decode cL_law 489 = .ok (.lcmp, 1) := by decide +kernel
theorem dL_law_490 : decode cL_law 490 = .ok (.ifCond .eq 5, 3) := by decide +kernel
theorem dL_law_493 : decode cL_law 493 = .ok (.iconst 0, 1) := by decide +kernel
theorem dL_law_494 : decode cL_law 494 = .ok (.ireturn, 1) := by decide +kernel
theorem dL_law_495 : decode cL_law 495 = .ok (.goto 1567, 3) := by decide +kernel
theorem dL_law_498 : decode cL_law 498 = .ok (.aload_n 1, 1) := by decide +kernel
theorem dL_law_499 : decode cL_law 499 = .ok (.aload_n 0, 1) := by decide +kernel
theorem dL_law_500 : decode cL_law 500 = .ok (.iload 4, 2) := by decide +kernel
theorem dL_law_502 : decode cL_law 502 = .ok (.iconst 1, 1) := by decide +kernel
theorem dL_law_503 : decode cL_law 503 = .ok (.iadd, 1) := by decide +kernel
theorem dL_law_504 : decode cL_law 504 = .ok (.iaload, 1) := by decide +kernel
theorem dL_law_505 : decode cL_law 505 = .ok (.aload_n 0, 1) := by decide +kernel
theorem dL_law_506 : decode cL_law 506 = .ok (.iload 4, 2) := by decide +kernel
theorem dL_law_508 : decode cL_law 508 = .ok (.iconst 2, 1) := by decide +kernel
theorem dL_law_509 : decode cL_law 509 = .ok (.iadd, 1) := by decide +kernel
theorem dL_law_510 : decode cL_law 510 = .ok (.iaload, 1) := by decide +kernel
theorem dL_law_511 : decode cL_law 511 = .ok (.aload_n 3, 1) := by decide +kernel
theorem dL_law_512 : decode cL_law 512 = .ok (.invokestatic 136, 3) := by decide +kernel
theorem dL_law_515 : decode cL_law 515 = .ok (.istore 5, 2) := by decide +kernel
theorem dL_law_517 : decode cL_law 517 = .ok (.aload_n 2, 1) := by decide +kernel
theorem dL_law_518 : decode cL_law 518 = .ok (.aload_n 0, 1) := by decide +kernel
theorem dL_law_519 : decode cL_law 519 = .ok (.iload 4, 2) := by decide +kernel
theorem dL_law_521 : decode cL_law 521 = .ok (.iconst 1, 1) := by decide +kernel
theorem dL_law_522 : decode cL_law 522 = .ok (.iadd, 1) := by decide +kernel
theorem dL_law_523 : decode cL_law 523 = .ok (.iaload, 1) := by decide +kernel
theorem dL_law_524 : decode cL_law 524 = .ok (.aload_n 0, 1) := by decide +kernel
theorem dL_law_525 : decode cL_law 525 = .ok (.iload 4, 2) := by decide +kernel
theorem dL_law_527 : decode cL_law 527 = .ok (.iconst 2, 1) := by decide +kernel
theorem dL_law_528 : decode cL_law 528 = .ok (.iadd, 1) := by decide +kernel
theorem dL_law_529 : decode cL_law 529 = .ok (.iaload, 1) := by decide +kernel
theorem dL_law_530 : decode cL_law 530 = .ok (.invokevirtual 138, 3) := by decide +kernel
theorem dL_law_533 : decode cL_law 533 = .ok (.istore 6, 2) := by decide +kernel
theorem dL_law_535 : decode cL_law 535 = .ok (.aload_n 2, 1) := by decide +kernel
theorem dL_law_536 : decode cL_law 536 = .ok (.invokevirtual 110, 3) := by decide +kernel
theorem dL_law_539 : decode cL_law 539 = .ok (.iload 5, 2) := by decide +kernel
theorem dL_law_541 : decode cL_law 541 = .ok (.if_icmp .eq 5, 3) := by decide +kernel
theorem dL_law_544 : decode cL_law 544 = .ok (.iconst 0, 1) := by decide +kernel
theorem dL_law_545 : decode cL_law 545 = .ok (.ireturn, 1) := by decide +kernel
theorem dL_law_546 : decode cL_law 546 = .ok (.iload 5, 2) := by decide +kernel
theorem dL_law_548 : decode cL_law 548 = .ok (.ifCond .ne 15, 3) := by decide +kernel
theorem dL_law_551 : decode cL_law 551 = .ok (.aload_n 3, 1) := by decide +kernel
theorem dL_law_552 : decode cL_law 552 = .ok (.iconst 0, 1) := by decide +kernel
theorem dL_law_553 : decode cL_law 553 = .ok (.laload, 1) := by decide +kernel
theorem dL_law_554 : decode cL_law 554 = .ok (.iload 6, 2) := by decide +kernel
theorem dL_law_556 : decode cL_law 556 = .ok (.i2l, 1) := by decide +kernel
theorem dL_law_557 : decode cL_law 557 = .ok (.lcmp, 1) := by decide +kernel
theorem dL_law_558 : decode cL_law 558 = .ok (.ifCond .eq 5, 3) := by decide +kernel
theorem dL_law_561 : decode cL_law 561 = .ok (.iconst 0, 1) := by decide +kernel
theorem dL_law_562 : decode cL_law 562 = .ok (.ireturn, 1) := by decide +kernel
theorem dL_law_563 : decode cL_law 563 = .ok (.goto 1499, 3) := by decide +kernel
theorem dL_law_566 : decode cL_law 566 = .ok (.aload_n 1, 1) := by decide +kernel
theorem dL_law_567 : decode cL_law 567 = .ok (.aload_n 0, 1) := by decide +kernel
theorem dL_law_568 : decode cL_law 568 = .ok (.iload 4, 2) := by decide +kernel
theorem dL_law_570 : decode cL_law 570 = .ok (.iconst 1, 1) := by decide +kernel
theorem dL_law_571 : decode cL_law 571 = .ok (.iadd, 1) := by decide +kernel
theorem dL_law_572 : decode cL_law 572 = .ok (.iaload, 1) := by decide +kernel
theorem dL_law_573 : decode cL_law 573 = .ok (.aload_n 0, 1) := by decide +kernel
theorem dL_law_574 : decode cL_law 574 = .ok (.iload 4, 2) := by decide +kernel
theorem dL_law_576 : decode cL_law 576 = .ok (.iconst 2, 1) := by decide +kernel
theorem dL_law_577 : decode cL_law 577 = .ok (.iadd, 1) := by decide +kernel
theorem dL_law_578 : decode cL_law 578 = .ok (.iaload, 1) := by decide +kernel
theorem dL_law_579 : decode cL_law 579 = .ok (.aload_n 0, 1) := by decide +kernel
theorem dL_law_580 : decode cL_law 580 = .ok (.iload 4, 2) := by decide +kernel
theorem dL_law_582 : decode cL_law 582 = .ok (.iconst 3, 1) := by decide +kernel
theorem dL_law_583 : decode cL_law 583 = .ok (.iadd, 1) := by decide +kernel
theorem dL_law_584 : decode cL_law 584 = .ok (.iaload, 1) := by decide +kernel
theorem dL_law_585 : decode cL_law 585 = .ok (.aload_n 3, 1) := by decide +kernel
theorem dL_law_586 : decode cL_law 586 = .ok (.invokestatic 139, 3) := by decide +kernel
theorem dL_law_589 : decode cL_law 589 = .ok (.istore 5, 2) := by decide +kernel
theorem dL_law_591 : decode cL_law 591 = .ok (.aload_n 2, 1) := by decide +kernel
theorem dL_law_592 : decode cL_law 592 = .ok (.aload_n 0, 1) := by decide +kernel
theorem dL_law_593 : decode cL_law 593 = .ok (.iload 4, 2) := by decide +kernel
theorem dL_law_595 : decode cL_law 595 = .ok (.iconst 1, 1) := by decide +kernel
theorem dL_law_596 : decode cL_law 596 = .ok (.iadd, 1) := by decide +kernel
theorem dL_law_597 : decode cL_law 597 = .ok (.iaload, 1) := by decide +kernel
theorem dL_law_598 : decode cL_law 598 = .ok (.aload_n 0, 1) := by decide +kernel
theorem dL_law_599 : decode cL_law 599 = .ok (.iload 4, 2) := by decide +kernel
theorem dL_law_601 : decode cL_law 601 = .ok (.iconst 2, 1) := by decide +kernel
theorem dL_law_602 : decode cL_law 602 = .ok (.iadd, 1) := by decide +kernel
theorem dL_law_603 : decode cL_law 603 = .ok (.iaload, 1) := by decide +kernel
theorem dL_law_604 : decode cL_law 604 = .ok (.aload_n 0, 1) := by decide +kernel
theorem dL_law_605 : decode cL_law 605 = .ok (.iload 4, 2) := by decide +kernel
theorem dL_law_607 : decode cL_law 607 = .ok (.iconst 3, 1) := by decide +kernel
theorem dL_law_608 : decode cL_law 608 = .ok (.iadd, 1) := by decide +kernel
theorem dL_law_609 : decode cL_law 609 = .ok (.iaload, 1) := by decide +kernel
theorem dL_law_610 : decode cL_law 610 = .ok (.invokevirtual 141, 3) := by decide +kernel
theorem dL_law_613 : decode cL_law 613 = .ok (.istore 6, 2) := by decide +kernel
theorem dL_law_615 : decode cL_law 615 = .ok (.aload_n 2, 1) := by decide +kernel
