theorem dX10_trace_2 : decode cX10_trace 2 = .ok (.putfield 39, 3) := by decide +kernel
theorem dX10_trace_5 : decode cX10_trace 5 = .ok (.aload_n 0, 1) := by decide +kernel
theorem dX10_trace_6 : decode cX10_trace 6 = .ok (.iload_n 1, 1) := by decide +kernel
theorem dX10_trace_7 : decode cX10_trace 7 = .ok (.iload_n 2, 1) := by decide +kernel
theorem dX10_trace_8 : decode cX10_trace 8 = .ok (.invokevirtual 161, 3) := by decide +kernel
theorem dX10_trace_11 : decode cX10_trace 11 = .ok (.ifCond .ne 9, 3) := by decide +kernel
theorem dX10_trace_14 : decode cX10_trace 14 = .ok (.aload_n 0, 1) := by decide +kernel
theorem dX10_trace_15 : decode cX10_trace 15 = .ok (.iconst 1, 1) := by decide +kernel
theorem dX10_trace_16 : decode cX10_trace 16 = .ok (.invokevirtual 105, 3) := by decide +kernel
theorem dX10_trace_19 : decode cX10_trace 19 = .ok (.ireturn, 1) := by decide +kernel
theorem dX10_trace_20 : decode cX10_trace 20 = .ok (.iload_n 3, 1) := by decide +kernel
theorem dX10_trace_21 : decode cX10_trace 21 = .ok (.ifCond .ge 9, 3) := by decide +kernel
theorem dX10_trace_24 : decode cX10_trace 24 = .ok (.aload_n 0, 1) := by decide +kernel
theorem dX10_trace_25 : decode cX10_trace 25 = .ok (.iconst 2, 1) := by decide +kernel
theorem dX10_trace_26 : decode cX10_trace 26 = .ok (.invokevirtual 105, 3) := by decide +kernel
theorem dX10_trace_29 : decode cX10_trace 29 = .ok (.ireturn, 1) := by decide +kernel
theorem dX10_trace_30 : decode cX10_trace 30 = .ok (.aload_n 0, 1) := by decide +kernel
theorem dX10_trace_31 : decode cX10_trace 31 = .ok (.getfield 7, 3) := by decide +kernel
theorem dX10_trace_34 : decode cX10_trace 34 = .ok (.iload_n 1, 1) := by decide +kernel
theorem dX10_trace_35 : decode cX10_trace 35 = .ok (.iload_n 2, 1) := by decide +kernel
theorem dX10_trace_36 : decode cX10_trace 36 = .ok (.invokestatic 69, 3) := by decide +kernel
theorem dX10_trace_39 : decode cX10_trace 39 = .ok (.iaload, 1) := by decide +kernel
theorem dX10_trace_40 : decode cX10_trace 40 = .ok (.istore 4, 2) := by decide +kernel
theorem dX10_trace_42 : decode cX10_trace 42 = .ok (.iconst 0, 1) := by decide +kernel
theorem dX10_trace_43 : decode cX10_trace 43 = .ok (.istore 5, 2) := by decide +kernel
theorem dX10_trace_45 : decode cX10_trace 45 = .ok (.iload 5, 2) := by decide +kernel
theorem dX10_trace_47 : decode cX10_trace 47 = .ok (.iload_n 3, 1) := by decide +kernel
theorem dX10_trace_48 : decode cX10_trace 48 = .ok (.if_icmp .ge 23, 3) := by decide +kernel
theorem dX10_trace_51 : decode cX10_trace 51 = .ok (.iload 4, 2) := by decide +kernel
theorem dX10_trace_53 : decode cX10_trace 53 = .ok (.ifCond .lt 18, 3) := by decide +kernel
theorem dX10_trace_56 : decode cX10_trace 56 = .ok (.aload_n 0, 1) := by decide +kernel
theorem dX10_trace_57 : decode cX10_trace 57 = .ok (.iload 4, 2) := by decide +kernel
theorem dX10_trace_59 : decode cX10_trace 59 = .ok (.iconst 3, 1) := by decide +kernel
theorem dX10_trace_60 : decode cX10_trace 60 = .ok (.invokevirtual 65, 3) := by decide +kernel
theorem dX10_trace_63 : decode cX10_trace 63 = .ok (.istore 4, 2) := by decide +kernel
theorem dX10_trace_65 : decode cX10_trace 65 = .ok (.iinc 5 1, 3) := by decide +kernel
theorem dX10_trace_68 : decode cX10_trace 68 = .ok (.goto (-23), 3) := by decide +kernel
theorem dX10_trace_71 : decode cX10_trace 71 = .ok (.iload 4, 2) := by decide +kernel
theorem dX10_trace_73 : decode cX10_trace 73 = .ok (.invokestatic 175, 3) := by decide +kernel
theorem dX10_trace_76 : decode cX10_trace 76 = .ok (.ireturn, 1) := by decide +kernel
set_option maxRecDepth 20000 in
theorem ggX10_wentWrong_X10_isKey : GoodIn wsX10_wentWrong wsX10_isKey := goodIn_r _ [7, 8, 9, 10, 11, 6, 12, 2, 13, 14, 15, 27, 28, 29, 30, 31, 32, 33, 34, 35, 36, 37, 38, 39, 40, 41, 42, 43, 44, 45] (by decide +kernel) (by decide +kernel)
set_option maxRecDepth 20000 in
theorem gX10_wentWrong_X10_isKey : GoodIn wsX10_wentWrong (wsV RX10 161 RX10 yX10_isKey wsX10_isKey) := goodIn_app (goodIn_of _ (by decide +kernel)) ggX10_wentWrong_X10_isKey
set_option maxRecDepth 20000 in
theorem ggX10_wentWrong_X10_fails : GoodIn wsX10_wentWrong wsX10_fails := goodIn_r _ [19, 1, 27, 28, 29, 30, 31, 32, 33, 34, 35, 36, 37, 38, 39, 40, 41, 42, 43, 44, 45] (by decide +kernel) (by decide +kernel)
set_option maxRecDepth 20000 in
theorem gX10_wentWrong_X10_fails : GoodIn wsX10_wentWrong (wsV RX10 105 RX10 yX10_fails wsX10_fails) := goodIn_app (goodIn_of _ (by decide +kernel)) ggX10_wentWrong_X10_fails
set_option maxRecDepth 20000 in
theorem ggX10_wentWrong_X10_keyAt : GoodIn wsX10_wentWrong wsX10_keyAt := goodIn_r _ [22] (by decide +kernel) (by decide +kernel)
set_option maxRecDepth 20000 in
theorem gX10_wentWrong_X10_keyAt : GoodIn wsX10_wentWrong (va_wsS RX10 69 yX10_keyAt wsX10_keyAt) := goodIn_app (goodIn_of _ (by decide +kernel)) ggX10_wentWrong_X10_keyAt
set_option maxRecDepth 20000 in
theorem ggX10_wentWrong_X10_of : GoodIn wsX10_wentWrong wsX10_of := goodIn_r _ [26, 2, 27, 28, 29, 30, 31, 32, 33, 34, 35, 36, 37, 38, 39, 40, 41, 42, 43, 44, 45] (by decide +kernel) (by decide +kernel)
set_option maxRecDepth 20000 in
theorem gX10_wentWrong_X10_of : GoodIn wsX10_wentWrong (wsV RX10 65 RX10 yX10_of wsX10_of) := goodIn_app (goodIn_of _ (by decide +kernel)) ggX10_wentWrong_X10_of
theorem dX10_wentWrong_0 : decode cX10_wentWrong 0 = .ok (.aload_n 0, 1) := by decide +kernel
theorem dX10_wentWrong_1 : decode cX10_wentWrong 1 = .ok (.iconst 0, 1) := by decide +kernel
theorem dX10_wentWrong_2 : decode cX10_wentWrong 2 = .ok (.putfield 39, 3) := by decide +kernel
theorem dX10_wentWrong_5 : decode cX10_wentWrong 5 = .ok (.aload_n 0, 1) := by decide +kernel
theorem dX10_wentWrong_6 : decode cX10_wentWrong 6 = .ok (.iload_n 1, 1) := by decide +kernel
theorem dX10_wentWrong_7 : decode cX10_wentWrong 7 = .ok (.iload_n 2, 1) := by decide +kernel
theorem dX10_wentWrong_8 : decode cX10_wentWrong 8 = .ok (.invokevirtual 161, 3) := by decide +kernel
theorem dX10_wentWrong_11 : decode cX10_wentWrong 11 = .ok (.ifCond .ne 9, 3) := by decide +kernel
theorem dX10_wentWrong_14 : decode cX10_wentWrong 14 = .ok (.aload_n 0, 1) := by decide +kernel
theorem dX10_wentWrong_15 : decode cX10_wentWrong 15 = .ok (.iconst 1, 1) := by decide +kernel
theorem dX10_wentWrong_16 : decode cX10_wentWrong 16 = .ok (.invokevirtual 105, 3) := by decide +kernel
theorem dX10_wentWrong_19 : decode cX10_wentWrong 19 = .ok (.ireturn, 1) := by decide +kernel
theorem dX10_wentWrong_20 : decode cX10_wentWrong 20 = .ok (.bipush (-9), 2) := by decide +kernel
theorem dX10_wentWrong_22 : decode cX10_wentWrong 22 = .ok (.istore_n 3, 1) := by decide +kernel
theorem dX10_wentWrong_23 : decode cX10_wentWrong 23 = .ok (.aload_n 0, 1) := by decide +kernel
theorem dX10_wentWrong_24 : decode cX10_wentWrong 24 = .ok (.getfield 7, 3) := by decide +kernel
theorem dX10_wentWrong_27 : decode cX10_wentWrong 27 = .ok (.iload_n 1, 1) := by decide +kernel
theorem dX10_wentWrong_28 : decode cX10_wentWrong 28 = .ok (.iload_n 2, 1) := by decide +kernel
theorem dX10_wentWrong_29 : decode cX10_wentWrong 29 = .ok (.invokestatic 69, 3) := by decide +kernel
theorem dX10_wentWrong_32 : decode cX10_wentWrong 32 = .ok (.iaload, 1) := by decide +kernel
theorem dX10_wentWrong_33 : decode cX10_wentWrong 33 = .ok (.istore 4, 2) := by decide +kernel
theorem dX10_wentWrong_35 : decode cX10_wentWrong 35 = .ok (.iload 4, 2) := by decide +kernel
theorem dX10_wentWrong_37 : decode cX10_wentWrong 37 = .ok (.ifCond .lt 32, 3) := by decide +kernel
theorem dX10_wentWrong_40 : decode cX10_wentWrong 40 = .ok (.aload_n 0, 1) := by decide +kernel
theorem dX10_wentWrong_41 : decode cX10_wentWrong 41 = .ok (.iload 4, 2) := by decide +kernel
theorem dX10_wentWrong_43 : decode cX10_wentWrong 43 = .ok (.iconst 4, 1) := by decide +kernel
theorem dX10_wentWrong_44 : decode cX10_wentWrong 44 = .ok (.invokevirtual 65, 3) := by decide +kernel
theorem dX10_wentWrong_47 : decode cX10_wentWrong 47 = .ok (.ifCond .lt 8, 3) := by decide +kernel
theorem dX10_wentWrong_50 : decode cX10_wentWrong 50 = .ok (.iload 4, 2) := by decide +kernel
theorem dX10_wentWrong_52 : decode cX10_wentWrong 52 = .ok (.goto 4, 3) := by decide +kernel
theorem dX10_wentWrong_55 : decode cX10_wentWrong 55 = .ok (.iload_n 3, 1) := by decide +kernel
theorem dX10_wentWrong_56 : decode cX10_wentWrong 56 = .ok (.istore_n 3, 1) := by decide +kernel
theorem dX10_wentWrong_57 : decode cX10_wentWrong 57 = .ok (.aload_n 0, 1) := by decide +kernel
theorem dX10_wentWrong_58 : decode cX10_wentWrong 58 = .ok (.iload 4, 2) := by decide +kernel
theorem dX10_wentWrong_60 : decode cX10_wentWrong 60 = .ok (.iconst 3, 1) := by decide +kernel
theorem dX10_wentWrong_61 : decode cX10_wentWrong 61 = .ok (.invokevirtual 65, 3) := by decide +kernel
theorem dX10_wentWrong_64 : decode cX10_wentWrong 64 = .ok (.istore 4, 2) := by decide +kernel
theorem dX10_wentWrong_66 : decode cX10_wentWrong 66 = .ok (.goto (-31), 3) := by decide +kernel
theorem dX10_wentWrong_69 : decode cX10_wentWrong 69 = .ok (.iload_n 3, 1) := by decide +kernel
theorem dX10_wentWrong_70 : decode cX10_wentWrong 70 = .ok (.ireturn, 1) := by decide +kernel
set_option maxRecDepth 20000 in
theorem ggX10_common_X10_isKey : GoodIn wsX10_common wsX10_isKey := goodIn_r _ [7, 8, 9, 10, 11, 6, 12, 2, 13, 14, 15, 27, 28, 29, 30, 31, 32, 33, 34, 35, 36, 37, 38, 39, 40, 41, 42, 43, 44, 45] (by decide +kernel) (by decide +kernel)
set_option maxRecDepth 20000 in
theorem gX10_common_X10_isKey : GoodIn wsX10_common (wsV RX10 161 RX10 yX10_isKey wsX10_isKey) := goodIn_app (goodIn_of _ (by decide +kernel)) ggX10_common_X10_isKey
set_option maxRecDepth 20000 in
theorem ggX10_common_X10_fails : GoodIn wsX10_common wsX10_fails := goodIn_r _ [19, 1, 27, 28, 29, 30, 31, 32, 33, 34, 35, 36, 37, 38, 39, 40, 41, 42, 43, 44, 45] (by decide +kernel) (by decide +kernel)
set_option maxRecDepth 20000 in
theorem gX10_common_X10_fails : GoodIn wsX10_common (wsV RX10 105 RX10 yX10_fails wsX10_fails) := goodIn_app (goodIn_of _ (by decide +kernel)) ggX10_common_X10_fails
set_option maxRecDepth 20000 in
theorem ggX10_common_X10_keyAt : GoodIn wsX10_common wsX10_keyAt := goodIn_r _ [22] (by decide +kernel) (by decide +kernel)
set_option maxRecDepth 20000 in
theorem gX10_common_X10_keyAt : GoodIn wsX10_common (va_wsS RX10 69 yX10_keyAt wsX10_keyAt) := goodIn_app (goodIn_of _ (by decide +kernel)) ggX10_common_X10_keyAt
set_option maxRecDepth 20000 in
theorem ggX10_common_X10_of : GoodIn wsX10_common wsX10_of := goodIn_r _ [26, 2, 27, 28, 29, 30, 31, 32, 33, 34, 35, 36, 37, 38, 39, 40, 41, 42, 43, 44, 45] (by decide +kernel) (by decide +kernel)
set_option maxRecDepth 20000 in
theorem gX10_common_X10_of : GoodIn wsX10_common (wsV RX10 65 RX10 yX10_of wsX10_of) := goodIn_app (goodIn_of _ (by decide +kernel)) ggX10_common_X10_of
theorem dX10_common_0 : decode cX10_common 0 = .ok (.aload_n 0, 1) := by decide +kernel
theorem dX10_common_1 : decode cX10_common 1 = .ok (.iconst 0, 1) := by decide +kernel
theorem dX10_common_2 : decode cX10_common 2 = .ok (.putfield 39, 3) := by decide +kernel
theorem dX10_common_5 : decode cX10_common 5 = .ok (.aload_n 0, 1) := by decide +kernel
theorem dX10_common_6 : decode cX10_common 6 = .ok (.iload_n 1, 1) := by decide +kernel
theorem dX10_common_7 : decode cX10_common 7 = .ok (.iload_n 2, 1) := by decide +kernel
theorem dX10_common_8 : decode cX10_common 8 = .ok (.invokevirtual 161, 3) := by decide +kernel
theorem dX10_common_11 : decode cX10_common 11 = .ok (.ifCond .eq 13, 3) := by decide +kernel
theorem dX10_common_14 : decode cX10_common 14 = .ok (.aload_n 0, 1) := by decide +kernel
theorem dX10_common_15 : decode cX10_common 15 = .ok (.iload_n 3, 1) := by decide +kernel
theorem dX10_common_16 : decode cX10_common 16 = .ok (.iload 4, 2) := by decide +kernel
theorem dX10_common_18 : decode cX10_common 18 = .ok (.invokevirtual 161, 3) := by decide +kernel
theorem dX10_common_21 : decode cX10_common 21 = .ok (.ifCond .ne 9, 3) := by decide +kernel
theorem dX10_common_24 : decode cX10_common 24 = .ok (.aload_n 0, 1) := by decide +kernel
theorem dX10_common_25 : decode cX10_common 25 = .ok (.iconst 1, 1) := by decide +kernel
theorem dX10_common_26 : decode cX10_common 26 = .ok (.invokevirtual 105, 3) := by decide +kernel
theorem dX10_common_29 : decode cX10_common 29 = .ok (.ireturn, 1) := by decide +kernel
theorem dX10_common_30 : decode cX10_common 30 = .ok (.aload_n 0, 1) := by decide +kernel
theorem dX10_common_31 : decode cX10_common 31 = .ok (.getfield 7, 3) := by decide +kernel
theorem dX10_common_34 : decode cX10_common 34 = .ok (.iload_n 1, 1) := by decide +kernel
theorem dX10_common_35 : decode cX10_common 35 = .ok (.iload_n 2, 1) := by decide +kernel
theorem dX10_common_36 : decode cX10_common 36 = .ok (.invokestatic 69, 3) := by decide +kernel
theorem dX10_common_39 : decode cX10_common 39 = .ok (.iaload, 1) := by decide +kernel
theorem dX10_common_40 : decode cX10_common 40 = .ok (.istore 5, 2) := by decide +kernel
theorem dX10_common_42 : decode cX10_common 42 = .ok (.aload_n 0, 1) := by decide +kernel
theorem dX10_common_43 : decode cX10_common 43 = .ok (.getfield 7, 3) := by decide +kernel
theorem dX10_common_46 : decode cX10_common 46 = .ok (.iload_n 3, 1) := by decide +kernel
theorem dX10_common_47 : decode cX10_common 47 = .ok (.iload 4, 2) := by decide +kernel
theorem dX10_common_49 : decode cX10_common 49 = .ok (.invokestatic 69, 3) := by decide +kernel
theorem dX10_common_52 : decode cX10_common 52 = .ok (.iaload, 1) := by decide +kernel
theorem dX10_common_53 : decode cX10_common 53 = .ok (.istore 6, 2) := by decide +kernel
theorem dX10_common_55 : decode cX10_common 55 = .ok (.iload 5, 2) := by decide +kernel
theorem dX10_common_57 : decode cX10_common 57 = .ok (.ifCond .lt 46, 3) := by decide +kernel
theorem dX10_common_60 : decode cX10_common 60 = .ok (.iload 6, 2) := by decide +kernel
theorem dX10_common_62 : decode cX10_common 62 = .ok (.ifCond .lt 41, 3) := by decide +kernel
theorem dX10_common_65 : decode cX10_common 65 = .ok (.iload 5, 2) := by decide +kernel
theorem dX10_common_67 : decode cX10_common 67 = .ok (.iload 6, 2) := by decide +kernel
theorem dX10_common_69 : decode cX10_common 69 = .ok (.if_icmp .eq 34, 3) := by decide +kernel
theorem dX10_common_72 : decode cX10_common 72 = .ok (.iload 5, 2) := by decide +kernel
theorem dX10_common_74 : decode cX10_common 74 = .ok (.iload 6, 2) := by decide +kernel
theorem dX10_common_76 : decode cX10_common 76 = .ok (.if_icmp .le 15, 3) := by decide +kernel
theorem dX10_common_79 : decode cX10_common 79 = .ok (.aload_n 0, 1) := by decide +kernel
theorem dX10_common_80 : decode cX10_common 80 = .ok (.iload 5, 2) := by decide +kernel
theorem dX10_common_82 : decode cX10_common 82 = .ok (.iconst 3, 1) := by decide +kernel
theorem dX10_common_83 : decode cX10_common 83 = .ok (.invokevirtual 65, 3) := by decide +kernel
theorem dX10_common_86 : decode cX10_common 86 = .ok (.istore 5, 2) := by decide +kernel
theorem dX10_common_88 : decode cX10_common 88 = .ok (.goto (-33), 3) := by decide +kernel
theorem dX10_common_91 : decode cX10_common 91 = .ok (.aload_n 0, 1) := by decide +kernel
theorem dX10_common_92 : decode cX10_common 92 = .ok (.iload 6, 2) := by decide +kernel
theorem dX10_common_94 : decode cX10_common 94 = .ok (.iconst 3, 1) := by decide +kernel
theorem dX10_common_95 : decode cX10_common 95 = .ok (.invokevirtual 65, 3) := by decide +kernel
theorem dX10_common_98 : decode cX10_common 98 = .ok (.istore 6, 2) := by decide +kernel
theorem dX10_common_100 : decode cX10_common 100 = .ok (.goto (-45), 3) := by decide +kernel
theorem dX10_common_103 : decode cX10_common 103 = .ok (.iload 5, 2) := by decide +kernel
theorem dX10_common_105 : decode cX10_common 105 = .ok (.ifCond .lt 15, 3) := by decide +kernel
theorem dX10_common_108 : decode cX10_common 108 = .ok (.iload 5, 2) := by decide +kernel
theorem dX10_common_110 : decode cX10_common 110 = .ok (.iload 6, 2) := by decide +kernel
theorem dX10_common_112 : decode cX10_common 112 = .ok (.if_icmp .ne 8, 3) := by decide +kernel
theorem dX10_common_115 : decode cX10_common 115 = .ok (.iload 5, 2) := by decide +kernel
theorem dX10_common_117 : decode cX10_common 117 = .ok (.goto 5, 3) := by decide +kernel
theorem dX10_common_120 : decode cX10_common 120 = .ok (.bipush (-9), 2) := by decide +kernel
theorem dX10_common_122 : decode cX10_common 122 = .ok (.ireturn, 1) := by decide +kernel
set_option maxRecDepth 20000 in
theorem ggX10_accepted_X10_isKey : GoodIn wsX10_accepted wsX10_isKey := goodIn_r _ [6, 7, 8, 9, 10, 5, 11, 12, 13, 14, 15, 45, 46, 47, 48, 49, 50, 51, 52, 53, 54, 55, 56, 57, 58, 59, 60, 61, 62, 63] (by decide +kernel) (by decide +kernel)
set_option maxRecDepth 20000 in
theorem gX10_accepted_X10_isKey : GoodIn wsX10_accepted (wsV RX10 161 RX10 yX10_isKey wsX10_isKey) := goodIn_app (goodIn_of _ (by decide +kernel)) ggX10_accepted_X10_isKey
set_option maxRecDepth 20000 in
theorem ggX10_accepted_X10_acceptedBy : GoodIn wsX10_accepted wsX10_acceptedBy := goodIn_r _ [19, 12, 20, 21, 5, 22, 23, 24, 25, 26, 27, 28, 29, 30, 31, 32, 33, 34, 35, 36, 37, 38, 39, 40, 45, 46, 47, 48, 49, 50, 51, 52, 53, 54, 55, 56, 57, 58, 59, 60, 61, 62, 63] (by decide +kernel) (by decide +kernel)
set_option maxRecDepth 20000 in
theorem gX10_accepted_X10_acceptedBy : GoodIn wsX10_accepted (wsV RX10 100 RX10 yX10_acceptedBy wsX10_acceptedBy) := goodIn_app (goodIn_of _ (by decide +kernel)) ggX10_accepted_X10_acceptedBy
set_option maxRecDepth 20000 in
theorem ggX10_accepted_X10_fails : GoodIn wsX10_accepted wsX10_fails := goodIn_r _ [44, 1, 45, 46, 47, 48, 49, 50, 51, 52, 53, 54, 55, 56, 57, 58, 59, 60, 61, 62, 63] (by decide +kernel) (by decide +kernel)
set_option maxRecDepth 20000 in
theorem gX10_accepted_X10_fails : GoodIn wsX10_accepted (wsV RX10 105 RX10 yX10_fails wsX10_fails) := goodIn_app (goodIn_of _ (by decide +kernel)) ggX10_accepted_X10_fails
theorem dX10_accepted_0 : decode cX10_accepted 0 = .ok (.aload_n 0, 1) := by decide +kernel
theorem dX10_accepted_1 : decode cX10_accepted 1 = .ok (.iconst 0, 1) := by decide +kernel
theorem dX10_accepted_2 : decode cX10_accepted 2 = .ok (.putfield 39, 3) := by decide +kernel
theorem dX10_accepted_5 : decode cX10_accepted 5 = .ok (.aload_n 0, 1) := by decide +kernel
theorem dX10_accepted_6 : decode cX10_accepted 6 = .ok (.iload_n 1, 1) := by decide +kernel
theorem dX10_accepted_7 : decode cX10_accepted 7 = .ok (.iload_n 2, 1) := by decide +kernel
theorem dX10_accepted_8 : decode cX10_accepted 8 = .ok (.invokevirtual 161, 3) := by decide +kernel
theorem dX10_accepted_11 : decode cX10_accepted 11 = .ok (.ifCond .eq 12, 3) := by decide +kernel
theorem dX10_accepted_14 : decode cX10_accepted 14 = .ok (.aload_n 0, 1) := by decide +kernel
theorem dX10_accepted_15 : decode cX10_accepted 15 = .ok (.iload_n 1, 1) := by decide +kernel
theorem dX10_accepted_16 : decode cX10_accepted 16 = .ok (.iload_n 2, 1) := by decide +kernel
theorem dX10_accepted_17 : decode cX10_accepted 17 = .ok (.invokevirtual 100, 3) := by decide +kernel
theorem dX10_accepted_20 : decode cX10_accepted 20 = .ok (.goto 8, 3) := by decide +kernel
theorem dX10_accepted_23 : decode cX10_accepted 23 = .ok (.aload_n 0, 1) := by decide +kernel
theorem dX10_accepted_24 : decode cX10_accepted 24 = .ok (.iconst 1, 1) := by decide +kernel
theorem dX10_accepted_25 : decode cX10_accepted 25 = .ok (.invokevirtual 105, 3) := by decide +kernel
theorem dX10_accepted_28 : decode cX10_accepted 28 = .ok (.ireturn, 1) := by decide +kernel
set_option maxRecDepth 20000 in
theorem ggX10_enter_X10_isKey : GoodIn wsX10_enter wsX10_isKey := goodIn_r _ [8, 9, 10, 11, 12, 7, 13, 3, 14, 15, 16, 36, 37, 38, 39, 40, 41, 42, 43, 44, 45, 46, 47, 48, 49, 50, 51, 52, 53, 54] (by decide +kernel) (by decide +kernel)
set_option maxRecDepth 20000 in
theorem gX10_enter_X10_isKey : GoodIn wsX10_enter (wsV RX10 161 RX10 yX10_isKey wsX10_isKey) := goodIn_app (goodIn_of _ (by decide +kernel)) ggX10_enter_X10_isKey
set_option maxRecDepth 20000 in
theorem ggX10_enter_X10_fails : GoodIn wsX10_enter wsX10_fails := goodIn_r _ [20, 1, 36, 37, 38, 39, 40, 41, 42, 43, 44, 45, 46, 47, 48, 49, 50, 51, 52, 53, 54] (by decide +kernel) (by decide +kernel)
set_option maxRecDepth 20000 in
theorem gX10_enter_X10_fails : GoodIn wsX10_enter (wsV RX10 105 RX10 yX10_fails wsX10_fails) := goodIn_app (goodIn_of _ (by decide +kernel)) ggX10_enter_X10_fails
set_option maxRecDepth 20000 in
theorem ggX10_enter_X10_in : GoodIn wsX10_enter wsX10_in := goodIn_r _ [16] (by decide +kernel) (by decide +kernel)
set_option maxRecDepth 20000 in
theorem gX10_enter_X10_in : GoodIn wsX10_enter (va_wsS RX10 47 yX10_in wsX10_in) := goodIn_app (goodIn_of _ (by decide +kernel)) ggX10_enter_X10_in
set_option maxRecDepth 20000 in
theorem ggX10_enter_X10_remember : GoodIn wsX10_enter wsX10_remember := goodIn_r _ [24, 25, 26, 27, 3, 28, 36, 37, 38, 39, 40, 41, 42, 43, 44, 45, 46, 47, 48, 49, 50, 51, 52, 53, 54] (by decide +kernel) (by decide +kernel)
set_option maxRecDepth 20000 in
theorem gX10_enter_X10_remember : GoodIn wsX10_enter (wsV RX10 185 RX10 yX10_remember wsX10_remember) := goodIn_app (goodIn_of _ (by decide +kernel)) ggX10_enter_X10_remember
set_option maxRecDepth 20000 in
theorem ggX10_enter_X10_makes : GoodIn wsX10_enter wsX10_makes := goodIn_r _ [32, 3, 33, 34, 7, 35, 36, 37, 38, 39, 40, 41, 42, 43, 44, 45, 46, 47, 48, 49, 50, 51, 52, 53, 54] (by decide +kernel) (by decide +kernel)
set_option maxRecDepth 20000 in
theorem gX10_enter_X10_makes : GoodIn wsX10_enter (wsV RX10 86 RX10 yX10_makes wsX10_makes) := goodIn_app (goodIn_of _ (by decide +kernel)) ggX10_enter_X10_makes
theorem dX10_enter_0 : decode cX10_enter 0 = .ok (.aload_n 0, 1) := by decide +kernel
theorem dX10_enter_1 : decode cX10_enter 1 = .ok (.iconst 0, 1) := by decide +kernel
theorem dX10_enter_2 : decode cX10_enter 2 = .ok (.putfield 39, 3) := by decide +kernel
theorem dX10_enter_5 : decode cX10_enter 5 = .ok (.aload_n 0, 1) := by decide +kernel
theorem dX10_enter_6 : decode cX10_enter 6 = .ok (.iload_n 1, 1) := by decide +kernel
theorem dX10_enter_7 : decode cX10_enter 7 = .ok (.iload_n 2, 1) := by decide +kernel
theorem dX10_enter_8 : decode cX10_enter 8 = .ok (.invokevirtual 161, 3) := by decide +kernel
theorem dX10_enter_11 : decode cX10_enter 11 = .ok (.ifCond .ne 9, 3) := by decide +kernel
theorem dX10_enter_14 : decode cX10_enter 14 = .ok (.aload_n 0, 1) := by decide +kernel
theorem dX10_enter_15 : decode cX10_enter 15 = .ok (.iconst 1, 1) := by decide +kernel
theorem dX10_enter_16 : decode cX10_enter 16 = .ok (.invokevirtual 105, 3) := by decide +kernel
theorem dX10_enter_19 : decode cX10_enter 19 = .ok (.ireturn, 1) := by decide +kernel
theorem dX10_enter_20 : decode cX10_enter 20 = .ok (.iload_n 3, 1) := by decide +kernel
theorem dX10_enter_21 : decode cX10_enter 21 = .ok (.i2l, 1) := by decide +kernel
theorem dX10_enter_22 : decode cX10_enter 22 = .ok (.lconst 0, 1) := by decide +kernel
theorem dX10_enter_23 : decode cX10_enter 23 = .ok (.ldc2_w 183, 3) := by decide +kernel
theorem dX10_enter_26 : decode cX10_enter 26 = .ok (.invokestatic 47, 3) := by decide +kernel
theorem dX10_enter_29 : decode cX10_enter 29 = .ok (.ifCond .ne 9, 3) := by decide +kernel
theorem dX10_enter_32 : decode cX10_enter 32 = .ok (.aload_n 0, 1) := by decide +kernel
theorem dX10_enter_33 : decode cX10_enter 33 = .ok (.iconst 2, 1) := by decide +kernel
theorem dX10_enter_34 : decode cX10_enter 34 = .ok (.invokevirtual 105, 3) := by decide +kernel
theorem dX10_enter_37 : decode cX10_enter 37 = .ok (.ireturn, 1) := by decide +kernel
theorem dX10_enter_38 : decode cX10_enter 38 = .ok (.aload_n 0, 1) := by decide +kernel
theorem dX10_enter_39 : decode cX10_enter 39 = .ok (.getfield 7, 3) := by decide +kernel
theorem dX10_enter_42 : decode cX10_enter 42 = .ok (.iconst 2, 1) := by decide +kernel
theorem dX10_enter_43 : decode cX10_enter 43 = .ok (.iaload, 1) := by decide +kernel
theorem dX10_enter_44 : decode cX10_enter 44 = .ok (.bipush 40, 2) := by decide +kernel
theorem dX10_enter_46 : decode cX10_enter 46 = .ok (.if_icmp .ne 9, 3) := by decide +kernel
theorem dX10_enter_49 : decode cX10_enter 49 = .ok (.aload_n 0, 1) := by decide +kernel
theorem dX10_enter_50 : decode cX10_enter 50 = .ok (.iconst 3, 1) := by decide +kernel
theorem dX10_enter_51 : decode cX10_enter 51 = .ok (.invokevirtual 105, 3) := by decide +kernel
theorem dX10_enter_54 : decode cX10_enter 54 = .ok (.ireturn, 1) := by decide +kernel
theorem dX10_enter_55 : decode cX10_enter 55 = .ok (.aload_n 0, 1) := by decide +kernel
theorem dX10_enter_56 : decode cX10_enter 56 = .ok (.invokevirtual 185, 3) := by decide +kernel
theorem dX10_enter_59 : decode cX10_enter 59 = .ok (.aload_n 0, 1) := by decide +kernel
theorem dX10_enter_60 : decode cX10_enter 60 = .ok (.iload_n 3, 1) := by decide +kernel
theorem dX10_enter_61 : decode cX10_enter 61 = .ok (.iload_n 1, 1) := by decide +kernel
theorem dX10_enter_62 : decode cX10_enter 62 = .ok (.iload_n 2, 1) := by decide +kernel
theorem dX10_enter_63 : decode cX10_enter 63 = .ok (.iconst (-1), 1) := by decide +kernel
theorem dX10_enter_64 : decode cX10_enter 64 = .ok (.iconst (-1), 1) := by decide +kernel
theorem dX10_enter_65 : decode cX10_enter 65 = .ok (.invokevirtual 86, 3) := by decide +kernel
theorem dX10_enter_68 : decode cX10_enter 68 = .ok (.ireturn, 1) := by decide +kernel
set_option maxRecDepth 20000 in
theorem ggX10_canTeach_X10_keyAt : GoodIn wsX10_canTeach wsX10_keyAt := goodIn_r _ [5] (by decide +kernel) (by decide +kernel)
set_option maxRecDepth 20000 in
theorem gX10_canTeach_X10_keyAt : GoodIn wsX10_canTeach (va_wsS RX10 69 yX10_keyAt wsX10_keyAt) := goodIn_app (goodIn_of _ (by decide +kernel)) ggX10_canTeach_X10_keyAt
theorem dX10_canTeach_0 : decode cX10_canTeach 0 = .ok (.aload_n 0, 1) := by decide +kernel
theorem dX10_canTeach_1 : decode cX10_canTeach 1 = .ok (.getfield 7, 3) := by decide +kernel
theorem dX10_canTeach_4 : decode cX10_canTeach 4 = .ok (.iload_n 1, 1) := by decide +kernel
theorem dX10_canTeach_5 : decode cX10_canTeach 5 = .ok (.iload_n 2, 1) := by decide +kernel
theorem dX10_canTeach_6 : decode cX10_canTeach 6 = .ok (.invokestatic 69, 3) := by decide +kernel
theorem dX10_canTeach_9 : decode cX10_canTeach 9 = .ok (.iaload, 1) := by decide +kernel
theorem dX10_canTeach_10 : decode cX10_canTeach 10 = .ok (.ifCond .lt 18, 3) := by decide +kernel
theorem dX10_canTeach_13 : decode cX10_canTeach 13 = .ok (.aload_n 0, 1) := by decide +kernel
theorem dX10_canTeach_14 : decode cX10_canTeach 14 = .ok (.getfield 7, 3) := by decide +kernel
theorem dX10_canTeach_17 : decode cX10_canTeach 17 = .ok (.iconst 2, 1) := by decide +kernel
theorem dX10_canTeach_18 : decode cX10_canTeach 18 = .ok (.iaload, 1) := by decide +kernel
theorem dX10_canTeach_19 : decode cX10_canTeach 19 = .ok (.bipush 40, 2) := by decide +kernel
theorem dX10_canTeach_21 : decode cX10_canTeach 21 = .ok (.if_icmp .ge 7, 3) := by decide +kernel
theorem dX10_canTeach_24 : decode cX10_canTeach 24 = .ok (.iconst 1, 1) := by decide +kernel
theorem dX10_canTeach_25 : decode cX10_canTeach 25 = .ok (.goto 4, 3) := by decide +kernel
theorem dX10_canTeach_28 : decode cX10_canTeach 28 = .ok (.iconst 0, 1) := by decide +kernel
theorem dX10_canTeach_29 : decode cX10_canTeach 29 = .ok (.ireturn, 1) := by decide +kernel
set_option maxRecDepth 20000 in
theorem ggX10_teach_X10_isKey : GoodIn wsX10_teach wsX10_isKey := goodIn_r _ [6, 7, 8, 9, 10, 5, 11, 12, 13, 14, 15, 59, 60, 61, 62, 63, 64, 65, 66, 67, 68, 69, 70, 71, 72, 73, 74, 75, 76, 77] (by decide +kernel) (by decide +kernel)
set_option maxRecDepth 20000 in
theorem gX10_teach_X10_isKey : GoodIn wsX10_teach (wsV RX10 161 RX10 yX10_isKey wsX10_isKey) := goodIn_app (goodIn_of _ (by decide +kernel)) ggX10_teach_X10_isKey
set_option maxRecDepth 20000 in
theorem ggX10_teach_X10_fails : GoodIn wsX10_teach wsX10_fails := goodIn_r _ [19, 1, 59, 60, 61, 62, 63, 64, 65, 66, 67, 68, 69, 70, 71, 72, 73, 74, 75, 76, 77] (by decide +kernel) (by decide +kernel)
set_option maxRecDepth 20000 in
theorem gX10_teach_X10_fails : GoodIn wsX10_teach (wsV RX10 105 RX10 yX10_fails wsX10_fails) := goodIn_app (goodIn_of _ (by decide +kernel)) ggX10_teach_X10_fails
set_option maxRecDepth 20000 in
theorem ggX10_teach_X10_canTeach : GoodIn wsX10_teach wsX10_canTeach := goodIn_r _ [23, 12, 24, 25, 5, 26, 59, 60, 61, 62, 63, 64, 65, 66, 67, 68, 69, 70, 71, 72, 73, 74, 75, 76, 77] (by decide +kernel) (by decide +kernel)
set_option maxRecDepth 20000 in
theorem gX10_teach_X10_canTeach : GoodIn wsX10_teach (wsV RX10 188 RX10 yX10_canTeach wsX10_canTeach) := goodIn_app (goodIn_of _ (by decide +kernel)) ggX10_teach_X10_canTeach
set_option maxRecDepth 20000 in
theorem ggX10_teach_X10_remember : GoodIn wsX10_teach wsX10_remember := goodIn_r _ [30, 31, 32, 33, 12, 34, 59, 60, 61, 62, 63, 64, 65, 66, 67, 68, 69, 70, 71, 72, 73, 74, 75, 76, 77] (by decide +kernel) (by decide +kernel)
set_option maxRecDepth 20000 in
theorem gX10_teach_X10_remember : GoodIn wsX10_teach (wsV RX10 185 RX10 yX10_remember wsX10_remember) := goodIn_app (goodIn_of _ (by decide +kernel)) ggX10_teach_X10_remember
set_option maxRecDepth 20000 in
theorem ggX10_teach_X10_teaches : GoodIn wsX10_teach wsX10_teaches := goodIn_r _ [38, 12, 24, 25, 5, 26, 39, 40, 41, 42, 43, 44, 45, 34, 46, 47, 48, 49, 50, 51, 52, 53, 54, 55, 56, 57, 58, 59, 60, 61, 62, 63, 64, 65, 66, 67, 68, 69, 70, 71, 72, 73, 74, 75, 76, 77] (by decide +kernel) (by decide +kernel)
set_option maxRecDepth 20000 in
theorem gX10_teach_X10_teaches : GoodIn wsX10_teach (wsV RX10 191 RX10 yX10_teaches wsX10_teaches) := goodIn_app (goodIn_of _ (by decide +kernel)) ggX10_teach_X10_teaches
theorem dX10_teach_0 : decode cX10_teach 0 = .ok (.aload_n 0, 1) := by decide +kernel
theorem dX10_teach_1 : decode cX10_teach 1 = .ok (.iconst 0, 1) := by decide +kernel
theorem dX10_teach_2 : decode cX10_teach 2 = .ok (.putfield 39, 3) := by decide +kernel
theorem dX10_teach_5 : decode cX10_teach 5 = .ok (.aload_n 0, 1) := by decide +kernel
theorem dX10_teach_6 : decode cX10_teach 6 = .ok (.iload_n 1, 1) := by decide +kernel
theorem dX10_teach_7 : decode cX10_teach 7 = .ok (.iload_n 2, 1) := by decide +kernel
theorem dX10_teach_8 : decode cX10_teach 8 = .ok (.invokevirtual 161, 3) := by decide +kernel
theorem dX10_teach_11 : decode cX10_teach 11 = .ok (.ifCond .eq 13, 3) := by decide +kernel
theorem dX10_teach_14 : decode cX10_teach 14 = .ok (.aload_n 0, 1) := by decide +kernel
theorem dX10_teach_15 : decode cX10_teach 15 = .ok (.iload_n 3, 1) := by decide +kernel
theorem dX10_teach_16 : decode cX10_teach 16 = .ok (.iload 4, 2) := by decide +kernel
theorem dX10_teach_18 : decode cX10_teach 18 = .ok (.invokevirtual 161, 3) := by decide +kernel
theorem dX10_teach_21 : decode cX10_teach 21 = .ok (.ifCond .ne 9, 3) := by decide +kernel
theorem dX10_teach_24 : decode cX10_teach 24 = .ok (.aload_n 0, 1) := by decide +kernel
theorem dX10_teach_25 : decode cX10_teach 25 = .ok (.iconst 1, 1) := by decide +kernel
theorem dX10_teach_26 : decode cX10_teach 26 = .ok (.invokevirtual 105, 3) := by decide +kernel
theorem dX10_teach_29 : decode cX10_teach 29 = .ok (.ireturn, 1) := by decide +kernel
theorem dX10_teach_30 : decode cX10_teach 30 = .ok (.iload_n 1, 1) := by decide +kernel
theorem dX10_teach_31 : decode cX10_teach 31 = .ok (.iload_n 3, 1) := by decide +kernel
theorem dX10_teach_32 : decode cX10_teach 32 = .ok (.if_icmp .ne 15, 3) := by decide +kernel
theorem dX10_teach_35 : decode cX10_teach 35 = .ok (.iload_n 2, 1) := by decide +kernel
theorem dX10_teach_36 : decode cX10_teach 36 = .ok (.iload 4, 2) := by decide +kernel
theorem dX10_teach_38 : decode cX10_teach 38 = .ok (.if_icmp .ne 9, 3) := by decide +kernel
theorem dX10_teach_41 : decode cX10_teach 41 = .ok (.aload_n 0, 1) := by decide +kernel
theorem dX10_teach_42 : decode cX10_teach 42 = .ok (.iconst 2, 1) := by decide +kernel
theorem dX10_teach_43 : decode cX10_teach 43 = .ok (.invokevirtual 105, 3) := by decide +kernel
theorem dX10_teach_46 : decode cX10_teach 46 = .ok (.ireturn, 1) := by decide +kernel
theorem dX10_teach_47 : decode cX10_teach 47 = .ok (.aload_n 0, 1) := by decide +kernel
theorem dX10_teach_48 : decode cX10_teach 48 = .ok (.iload_n 1, 1) := by decide +kernel
theorem dX10_teach_49 : decode cX10_teach 49 = .ok (.iload_n 2, 1) := by decide +kernel
theorem dX10_teach_50 : decode cX10_teach 50 = .ok (.invokevirtual 188, 3) := by decide +kernel
theorem dX10_teach_53 : decode cX10_teach 53 = .ok (.ifCond .ne 9, 3) := by decide +kernel
theorem dX10_teach_56 : decode cX10_teach 56 = .ok (.aload_n 0, 1) := by decide +kernel
theorem dX10_teach_57 : decode cX10_teach 57 = .ok (.iconst 3, 1) := by decide +kernel
theorem dX10_teach_58 : decode cX10_teach 58 = .ok (.invokevirtual 105, 3) := by decide +kernel
theorem dX10_teach_61 : decode cX10_teach 61 = .ok (.ireturn, 1) := by decide +kernel
theorem dX10_teach_62 : decode cX10_teach 62 = .ok (.aload_n 0, 1) := by decide +kernel
theorem dX10_teach_63 : decode cX10_teach 63 = .ok (.invokevirtual 185, 3) := by decide +kernel
theorem dX10_teach_66 : decode cX10_teach 66 = .ok (.aload_n 0, 1) := by decide +kernel
theorem dX10_teach_67 : decode cX10_teach 67 = .ok (.iload_n 1, 1) := by decide +kernel
theorem dX10_teach_68 : decode cX10_teach 68 = .ok (.iload_n 2, 1) := by decide +kernel
theorem dX10_teach_69 : decode cX10_teach 69 = .ok (.iload_n 3, 1) := by decide +kernel
theorem dX10_teach_70 : decode cX10_teach 70 = .ok (.iload 4, 2) := by decide +kernel
theorem dX10_teach_72 : decode cX10_teach 72 = .ok (.invokevirtual 191, 3) := by decide +kernel
theorem dX10_teach_75 : decode cX10_teach 75 = .ok (.ireturn, 1) := by decide +kernel
set_option maxRecDepth 20000 in
theorem ggX10_erase_X10_isKey : GoodIn wsX10_erase wsX10_isKey := goodIn_r _ [7, 8, 9, 10, 11, 6, 12, 2, 13, 14, 15, 35, 36, 37, 38, 39, 40, 41, 42, 43, 44, 45, 46, 47, 48, 49, 50, 51, 52, 53] (by decide +kernel) (by decide +kernel)
set_option maxRecDepth 20000 in
theorem gX10_erase_X10_isKey : GoodIn wsX10_erase (wsV RX10 161 RX10 yX10_isKey wsX10_isKey) := goodIn_app (goodIn_of _ (by decide +kernel)) ggX10_erase_X10_isKey
set_option maxRecDepth 20000 in
theorem ggX10_erase_X10_fails : GoodIn wsX10_erase wsX10_fails := goodIn_r _ [19, 1, 35, 36, 37, 38, 39, 40, 41, 42, 43, 44, 45, 46, 47, 48, 49, 50, 51, 52, 53] (by decide +kernel) (by decide +kernel)
set_option maxRecDepth 20000 in
theorem gX10_erase_X10_fails : GoodIn wsX10_erase (wsV RX10 105 RX10 yX10_fails wsX10_fails) := goodIn_app (goodIn_of _ (by decide +kernel)) ggX10_erase_X10_fails
set_option maxRecDepth 20000 in
theorem ggX10_erase_X10_remember : GoodIn wsX10_erase wsX10_remember := goodIn_r _ [23, 24, 25, 26, 2, 27, 35, 36, 37, 38, 39, 40, 41, 42, 43, 44, 45, 46, 47, 48, 49, 50, 51, 52, 53] (by decide +kernel) (by decide +kernel)
set_option maxRecDepth 20000 in
theorem gX10_erase_X10_remember : GoodIn wsX10_erase (wsV RX10 185 RX10 yX10_remember wsX10_remember) := goodIn_app (goodIn_of _ (by decide +kernel)) ggX10_erase_X10_remember
set_option maxRecDepth 20000 in
theorem ggX10_erase_X10_keyAt : GoodIn wsX10_erase wsX10_keyAt := goodIn_r _ [30] (by decide +kernel) (by decide +kernel)
set_option maxRecDepth 20000 in
theorem gX10_erase_X10_keyAt : GoodIn wsX10_erase (va_wsS RX10 69 yX10_keyAt wsX10_keyAt) := goodIn_app (goodIn_of _ (by decide +kernel)) ggX10_erase_X10_keyAt
set_option maxRecDepth 20000 in
theorem ggX10_erase_X10_of : GoodIn wsX10_erase wsX10_of := goodIn_r _ [34, 2, 35, 36, 37, 38, 39, 40, 41, 42, 43, 44, 45, 46, 47, 48, 49, 50, 51, 52, 53] (by decide +kernel) (by decide +kernel)
set_option maxRecDepth 20000 in
theorem gX10_erase_X10_of : GoodIn wsX10_erase (wsV RX10 65 RX10 yX10_of wsX10_of) := goodIn_app (goodIn_of _ (by decide +kernel)) ggX10_erase_X10_of
theorem dX10_erase_0 : decode cX10_erase 0 = .ok (.aload_n 0, 1) := by decide +kernel
theorem dX10_erase_1 : decode cX10_erase 1 = .ok (.iconst 0, 1) := by decide +kernel
theorem dX10_erase_2 : decode cX10_erase 2 = .ok (.putfield 39, 3) := by decide +kernel
theorem dX10_erase_5 : decode cX10_erase 5 = .ok (.aload_n 0, 1) := by decide +kernel
theorem dX10_erase_6 : decode cX10_erase 6 = .ok (.iload_n 1, 1) := by decide +kernel
theorem dX10_erase_7 : decode cX10_erase 7 = .ok (.iload_n 2, 1) := by decide +kernel
theorem dX10_erase_8 : decode cX10_erase 8 = .ok (.invokevirtual 161, 3) := by decide +kernel
theorem dX10_erase_11 : decode cX10_erase 11 = .ok (.ifCond .ne 9, 3) := by decide +kernel
theorem dX10_erase_14 : decode cX10_erase 14 = .ok (.aload_n 0, 1) := by decide +kernel
theorem dX10_erase_15 : decode cX10_erase 15 = .ok (.iconst 1, 1) := by decide +kernel
theorem dX10_erase_16 : decode cX10_erase 16 = .ok (.invokevirtual 105, 3) := by decide +kernel
theorem dX10_erase_19 : decode cX10_erase 19 = .ok (.ireturn, 1) := by decide +kernel
theorem dX10_erase_20 : decode cX10_erase 20 = .ok (.aload_n 0, 1) := by decide +kernel
theorem dX10_erase_21 : decode cX10_erase 21 = .ok (.invokevirtual 185, 3) := by decide +kernel
theorem dX10_erase_24 : decode cX10_erase 24 = .ok (.aload_n 0, 1) := by decide +kernel
theorem dX10_erase_25 : decode cX10_erase 25 = .ok (.getfield 7, 3) := by decide +kernel
theorem dX10_erase_28 : decode cX10_erase 28 = .ok (.iload_n 1, 1) := by decide +kernel
theorem dX10_erase_29 : decode cX10_erase 29 = .ok (.iload_n 2, 1) := by decide +kernel
theorem dX10_erase_30 : decode cX10_erase 30 = .ok (.invokestatic 69, 3) := by decide +kernel
theorem dX10_erase_33 : decode cX10_erase 33 = .ok (.iaload, 1) := by decide +kernel
theorem dX10_erase_34 : decode cX10_erase 34 = .ok (.istore_n 3, 1) := by decide +kernel
theorem dX10_erase_35 : decode cX10_erase 35 = .ok (.aload_n 0, 1) := by decide +kernel
theorem dX10_erase_36 : decode cX10_erase 36 = .ok (.getfield 7, 3) := by decide +kernel
theorem dX10_erase_39 : decode cX10_erase 39 = .ok (.iload_n 1, 1) := by decide +kernel
theorem dX10_erase_40 : decode cX10_erase 40 = .ok (.iload_n 2, 1) := by decide +kernel
theorem dX10_erase_41 : decode cX10_erase 41 = .ok (.invokestatic 69, 3) := by decide +kernel
theorem dX10_erase_44 : decode cX10_erase 44 = .ok (.iconst (-1), 1) := by decide +kernel
theorem dX10_erase_45 : decode cX10_erase 45 = .ok (.iastore, 1) := by decide +kernel
theorem dX10_erase_46 : decode cX10_erase 46 = .ok (.iload_n 3, 1) := by decide +kernel
theorem dX10_erase_47 : decode cX10_erase 47 = .ok (.ifCond .ge 8, 3) := by decide +kernel
theorem dX10_erase_50 : decode cX10_erase 50 = .ok (.bipush (-9), 2) := by decide +kernel
theorem dX10_erase_52 : decode cX10_erase 52 = .ok (.goto 9, 3) := by decide +kernel
theorem dX10_erase_55 : decode cX10_erase 55 = .ok (.aload_n 0, 1) := by decide +kernel
theorem dX10_erase_56 : decode cX10_erase 56 = .ok (.iload_n 3, 1) := by decide +kernel
theorem dX10_erase_57 : decode cX10_erase 57 = .ok (.iconst 0, 1) := by decide +kernel
theorem dX10_erase_58 : decode cX10_erase 58 = .ok (.invokevirtual 65, 3) := by decide +kernel
theorem dX10_erase_61 : decode cX10_erase 61 = .ok (.ireturn, 1) := by decide +kernel
set_option maxRecDepth 20000 in
theorem ggX10_press_X10_isKey : GoodIn wsX10_press wsX10_isKey := goodIn_r _ [7, 8, 9, 10, 11, 6, 12, 2, 13, 14, 15, 57, 58, 59, 60, 61, 62, 63, 64, 65, 66, 67, 68, 69, 70, 71, 72, 73, 74, 75] (by decide +kernel) (by decide +kernel)
set_option maxRecDepth 20000 in
theorem gX10_press_X10_isKey : GoodIn wsX10_press (wsV RX10 161 RX10 yX10_isKey wsX10_isKey) := goodIn_app (goodIn_of _ (by decide +kernel)) ggX10_press_X10_isKey
set_option maxRecDepth 20000 in
theorem ggX10_press_X10_fails : GoodIn wsX10_press wsX10_fails := goodIn_r _ [19, 1, 57, 58, 59, 60, 61, 62, 63, 64, 65, 66, 67, 68, 69, 70, 71, 72, 73, 74, 75] (by decide +kernel) (by decide +kernel)
set_option maxRecDepth 20000 in
theorem gX10_press_X10_fails : GoodIn wsX10_press (wsV RX10 105 RX10 yX10_fails wsX10_fails) := goodIn_app (goodIn_of _ (by decide +kernel)) ggX10_press_X10_fails
set_option maxRecDepth 20000 in
theorem ggX10_press_X10_keyAt : GoodIn wsX10_press wsX10_keyAt := goodIn_r _ [22] (by decide +kernel) (by decide +kernel)
set_option maxRecDepth 20000 in
theorem gX10_press_X10_keyAt : GoodIn wsX10_press (va_wsS RX10 69 yX10_keyAt wsX10_keyAt) := goodIn_app (goodIn_of _ (by decide +kernel)) ggX10_press_X10_keyAt
set_option maxRecDepth 20000 in
theorem ggX10_press_X10_remember : GoodIn wsX10_press wsX10_remember := goodIn_r _ [26, 27, 28, 29, 2, 30, 57, 58, 59, 60, 61, 62, 63, 64, 65, 66, 67, 68, 69, 70, 71, 72, 73, 74, 75] (by decide +kernel) (by decide +kernel)
set_option maxRecDepth 20000 in
theorem gX10_press_X10_remember : GoodIn wsX10_press (wsV RX10 185 RX10 yX10_remember wsX10_remember) := goodIn_app (goodIn_of _ (by decide +kernel)) ggX10_press_X10_remember
set_option maxRecDepth 20000 in
theorem ggX10_press_X10_presses : GoodIn wsX10_press wsX10_presses := goodIn_r _ [34, 2, 35, 36, 37, 6, 38, 20, 21, 22, 39, 40, 41, 42, 43, 44, 45, 46, 47, 48, 49, 50, 51, 52, 53, 54, 55, 56, 57, 58, 59, 60, 61, 62, 63, 64, 65, 66, 67, 68, 69, 70, 71, 72, 73, 74, 75] (by decide +kernel) (by decide +kernel)
set_option maxRecDepth 20000 in
theorem gX10_press_X10_presses : GoodIn wsX10_press (wsV RX10 195 RX10 yX10_presses wsX10_presses) := goodIn_app (goodIn_of _ (by decide +kernel)) ggX10_press_X10_presses
theorem dX10_press_0 : decode cX10_press 0 = .ok (.aload_n 0, 1) := by decide +kernel
theorem dX10_press_1 : decode cX10_press 1 = .ok (.iconst 0, 1) := by decide +kernel
theorem dX10_press_2 : decode cX10_press 2 = .ok (.putfield 39, 3) := by decide +kernel
theorem dX10_press_5 : decode cX10_press 5 = .ok (.aload_n 0, 1) := by decide +kernel
theorem dX10_press_6 : decode cX10_press 6 = .ok (.iload_n 1, 1) := by decide +kernel
theorem dX10_press_7 : decode cX10_press 7 = .ok (.iload_n 2, 1) := by decide +kernel
theorem dX10_press_8 : decode cX10_press 8 = .ok (.invokevirtual 161, 3) := by decide +kernel
theorem dX10_press_11 : decode cX10_press 11 = .ok (.ifCond .ne 9, 3) := by decide +kernel
theorem dX10_press_14 : decode cX10_press 14 = .ok (.aload_n 0, 1) := by decide +kernel
theorem dX10_press_15 : decode cX10_press 15 = .ok (.iconst 1, 1) := by decide +kernel
theorem dX10_press_16 : decode cX10_press 16 = .ok (.invokevirtual 105, 3) := by decide +kernel
theorem dX10_press_19 : decode cX10_press 19 = .ok (.ireturn, 1) := by decide +kernel
theorem dX10_press_20 : decode cX10_press 20 = .ok (.aload_n 0, 1) := by decide +kernel
theorem dX10_press_21 : decode cX10_press 21 = .ok (.getfield 7, 3) := by decide +kernel
theorem dX10_press_24 : decode cX10_press 24 = .ok (.iload_n 1, 1) := by decide +kernel
theorem dX10_press_25 : decode cX10_press 25 = .ok (.iload_n 2, 1) := by decide +kernel
theorem dX10_press_26 : decode cX10_press 26 = .ok (.invokestatic 69, 3) := by decide +kernel
theorem dX10_press_29 : decode cX10_press 29 = .ok (.iaload, 1) := by decide +kernel
theorem dX10_press_30 : decode cX10_press 30 = .ok (.ifCond .ge 9, 3) := by decide +kernel
theorem dX10_press_33 : decode cX10_press 33 = .ok (.aload_n 0, 1) := by decide +kernel
theorem dX10_press_34 : decode cX10_press 34 = .ok (.iconst 2, 1) := by decide +kernel
theorem dX10_press_35 : decode cX10_press 35 = .ok (.invokevirtual 105, 3) := by decide +kernel
theorem dX10_press_38 : decode cX10_press 38 = .ok (.ireturn, 1) := by decide +kernel
theorem dX10_press_39 : decode cX10_press 39 = .ok (.aload_n 0, 1) := by decide +kernel
theorem dX10_press_40 : decode cX10_press 40 = .ok (.invokevirtual 185, 3) := by decide +kernel
theorem dX10_press_43 : decode cX10_press 43 = .ok (.aload_n 0, 1) := by decide +kernel
theorem dX10_press_44 : decode cX10_press 44 = .ok (.iload_n 1, 1) := by decide +kernel
theorem dX10_press_45 : decode cX10_press 45 = .ok (.iload_n 2, 1) := by decide +kernel
theorem dX10_press_46 : decode cX10_press 46 = .ok (.invokevirtual 195, 3) := by decide +kernel
theorem dX10_press_49 : decode cX10_press 49 = .ok (.ireturn, 1) := by decide +kernel
theorem dX10_adds_0 : decode cX10_adds 0 = .ok (.sipush 259, 3) := by decide +kernel
theorem dX10_adds_3 : decode cX10_adds 3 = .ok (.iconst 4, 1) := by decide +kernel
theorem dX10_adds_4 : decode cX10_adds 4 = .ok (.aload_n 0, 1) := by decide +kernel
theorem dX10_adds_5 : decode cX10_adds 5 = .ok (.getfield 7, 3) := by decide +kernel
theorem dX10_adds_8 : decode cX10_adds 8 = .ok (.iconst 1, 1) := by decide +kernel
theorem dX10_adds_9 : decode cX10_adds 9 = .ok (.iaload, 1) := by decide +kernel
theorem dX10_adds_10 : decode cX10_adds 10 = .ok (.imul, 1) := by decide +kernel
theorem dX10_adds_11 : decode cX10_adds 11 = .ok (.iadd, 1) := by decide +kernel
theorem dX10_adds_12 : decode cX10_adds 12 = .ok (.istore 4, 2) := by decide +kernel
theorem dX10_adds_14 : decode cX10_adds 14 = .ok (.aload_n 0, 1) := by decide +kernel
theorem dX10_adds_15 : decode cX10_adds 15 = .ok (.getfield 7, 3) := by decide +kernel
theorem dX10_adds_18 : decode cX10_adds 18 = .ok (.iload 4, 2) := by decide +kernel
theorem dX10_adds_20 : decode cX10_adds 20 = .ok (.iload_n 1, 1) := by decide +kernel
theorem dX10_adds_21 : decode cX10_adds 21 = .ok (.iastore, 1) := by decide +kernel
theorem dX10_adds_22 : decode cX10_adds 22 = .ok (.aload_n 0, 1) := by decide +kernel
theorem dX10_adds_23 : decode cX10_adds 23 = .ok (.getfield 7, 3) := by decide +kernel
theorem dX10_adds_26 : decode cX10_adds 26 = .ok (.iload 4, 2) := by decide +kernel
theorem dX10_adds_28 : decode cX10_adds 28 = .ok (.iconst 1, 1) := by decide +kernel
theorem dX10_adds_29 : decode cX10_adds 29 = .ok (.iadd, 1) := by decide +kernel
theorem dX10_adds_30 : decode cX10_adds 30 = .ok (.iload_n 2, 1) := by decide +kernel
theorem dX10_adds_31 : decode cX10_adds 31 = .ok (.iastore, 1) := by decide +kernel
theorem dX10_adds_32 : decode cX10_adds 32 = .ok (.aload_n 0, 1) := by decide +kernel
theorem dX10_adds_33 : decode cX10_adds 33 = .ok (.getfield 7, 3) := by decide +kernel
theorem dX10_adds_36 : decode cX10_adds 36 = .ok (.iload 4, 2) := by decide +kernel
theorem dX10_adds_38 : decode cX10_adds 38 = .ok (.iconst 2, 1) := by decide +kernel
theorem dX10_adds_39 : decode cX10_adds 39 = .ok (.iadd, 1) := by decide +kernel
theorem dX10_adds_40 : decode cX10_adds 40 = .ok (.iload_n 3, 1) := by decide +kernel
theorem dX10_adds_41 : decode cX10_adds 41 = .ok (.iastore, 1) := by decide +kernel
theorem dX10_adds_42 : decode cX10_adds 42 = .ok (.aload_n 0, 1) := by decide +kernel
theorem dX10_adds_43 : decode cX10_adds 43 = .ok (.getfield 7, 3) := by decide +kernel
theorem dX10_adds_46 : decode cX10_adds 46 = .ok (.iload 4, 2) := by decide +kernel
theorem dX10_adds_48 : decode cX10_adds 48 = .ok (.iconst 3, 1) := by decide +kernel
theorem dX10_adds_49 : decode cX10_adds 49 = .ok (.iadd, 1) := by decide +kernel
theorem dX10_adds_50 : decode cX10_adds 50 = .ok (.iconst 0, 1) := by decide +kernel
theorem dX10_adds_51 : decode cX10_adds 51 = .ok (.iastore, 1) := by decide +kernel
theorem dX10_adds_52 : decode cX10_adds 52 = .ok (.aload_n 0, 1) := by decide +kernel
theorem dX10_adds_53 : decode cX10_adds 53 = .ok (.getfield 7, 3) := by decide +kernel
theorem dX10_adds_56 : decode cX10_adds 56 = .ok (.iconst 1, 1) := by decide +kernel
theorem dX10_adds_57 : decode cX10_adds 57 = .ok (.dup2, 1) := by decide +kernel
theorem dX10_adds_58 : decode cX10_adds 58 = .ok (.iaload, 1) := by decide +kernel
theorem dX10_adds_59 : decode cX10_adds 59 = .ok (.iconst 1, 1) := by decide +kernel
theorem dX10_adds_60 : decode cX10_adds 60 = .ok (.iadd, 1) := by decide +kernel
theorem dX10_adds_61 : decode cX10_adds 61 = .ok (.iastore, 1) := by decide +kernel
theorem dX10_adds_62 : decode cX10_adds 62 = .ok (.aload_n 0, 1) := by decide +kernel
theorem dX10_adds_63 : decode cX10_adds 63 = .ok (.getfield 7, 3) := by decide +kernel
theorem dX10_adds_66 : decode cX10_adds 66 = .ok (.iconst 1, 1) := by decide +kernel
theorem dX10_adds_67 : decode cX10_adds 67 = .ok (.iaload, 1) := by decide +kernel
theorem dX10_adds_68 : decode cX10_adds 68 = .ok (.iconst 1, 1) := by decide +kernel
theorem dX10_adds_69 : decode cX10_adds 69 = .ok (.isub, 1) := by decide +kernel
theorem dX10_adds_70 : decode cX10_adds 70 = .ok (.ireturn, 1) := by decide +kernel
set_option maxRecDepth 20000 in
theorem ggX10_addDevice_X10_isHouse : GoodIn wsX10_addDevice wsX10_isHouse := goodIn_r _ [9, 4, 10, 11, 8, 12, 29, 30, 31, 32, 33, 34, 35, 36, 37, 38, 39, 40, 41, 42, 43, 44, 45, 46, 47] (by decide +kernel) (by decide +kernel)
set_option maxRecDepth 20000 in
theorem gX10_addDevice_X10_isHouse : GoodIn wsX10_addDevice (wsV RX10 61 RX10 yX10_isHouse wsX10_isHouse) := goodIn_app (goodIn_of _ (by decide +kernel)) ggX10_addDevice_X10_isHouse
set_option maxRecDepth 20000 in
theorem ggX10_addDevice_X10_fails : GoodIn wsX10_addDevice wsX10_fails := goodIn_r _ [16, 1, 29, 30, 31, 32, 33, 34, 35, 36, 37, 38, 39, 40, 41, 42, 43, 44, 45, 46, 47] (by decide +kernel) (by decide +kernel)
set_option maxRecDepth 20000 in
theorem gX10_addDevice_X10_fails : GoodIn wsX10_addDevice (wsV RX10 105 RX10 yX10_fails wsX10_fails) := goodIn_app (goodIn_of _ (by decide +kernel)) ggX10_addDevice_X10_fails
set_option maxRecDepth 20000 in
theorem ggX10_addDevice_X10_in : GoodIn wsX10_addDevice wsX10_in := goodIn_r _ [12] (by decide +kernel) (by decide +kernel)
set_option maxRecDepth 20000 in
theorem gX10_addDevice_X10_in : GoodIn wsX10_addDevice (va_wsS RX10 47 yX10_in wsX10_in) := goodIn_app (goodIn_of _ (by decide +kernel)) ggX10_addDevice_X10_in
set_option maxRecDepth 20000 in
theorem ggX10_addDevice_X10_remember : GoodIn wsX10_addDevice wsX10_remember := goodIn_r _ [20, 21, 22, 23, 4, 24, 29, 30, 31, 32, 33, 34, 35, 36, 37, 38, 39, 40, 41, 42, 43, 44, 45, 46, 47] (by decide +kernel) (by decide +kernel)
set_option maxRecDepth 20000 in
theorem gX10_addDevice_X10_remember : GoodIn wsX10_addDevice (wsV RX10 185 RX10 yX10_remember wsX10_remember) := goodIn_app (goodIn_of _ (by decide +kernel)) ggX10_addDevice_X10_remember
set_option maxRecDepth 20000 in
theorem ggX10_addDevice_X10_adds : GoodIn wsX10_addDevice wsX10_adds := goodIn_r _ [28, 4, 29, 30, 31, 32, 33, 34, 35, 36, 37, 38, 39, 40, 41, 42, 43, 44, 45, 46, 47] (by decide +kernel) (by decide +kernel)
set_option maxRecDepth 20000 in
theorem gX10_addDevice_X10_adds : GoodIn wsX10_addDevice (wsV RX10 140 RX10 yX10_adds wsX10_adds) := goodIn_app (goodIn_of _ (by decide +kernel)) ggX10_addDevice_X10_adds
theorem dX10_addDevice_0 : decode cX10_addDevice 0 = .ok (.aload_n 0, 1) := by decide +kernel
theorem dX10_addDevice_1 : decode cX10_addDevice 1 = .ok (.iconst 0, 1) := by decide +kernel
theorem dX10_addDevice_2 : decode cX10_addDevice 2 = .ok (.putfield 39, 3) := by decide +kernel
theorem dX10_addDevice_5 : decode cX10_addDevice 5 = .ok (.aload_n 0, 1) := by decide +kernel
theorem dX10_addDevice_6 : decode cX10_addDevice 6 = .ok (.iload_n 1, 1) := by decide +kernel
theorem dX10_addDevice_7 : decode cX10_addDevice 7 = .ok (.invokevirtual 61, 3) := by decide +kernel
theorem dX10_addDevice_10 : decode cX10_addDevice 10 = .ok (.ifCond .ne 9, 3) := by decide +kernel
theorem dX10_addDevice_13 : decode cX10_addDevice 13 = .ok (.aload_n 0, 1) := by decide +kernel
theorem dX10_addDevice_14 : decode cX10_addDevice 14 = .ok (.iconst 1, 1) := by decide +kernel
theorem dX10_addDevice_15 : decode cX10_addDevice 15 = .ok (.invokevirtual 105, 3) := by decide +kernel
theorem dX10_addDevice_18 : decode cX10_addDevice 18 = .ok (.ireturn, 1) := by decide +kernel
theorem dX10_addDevice_19 : decode cX10_addDevice 19 = .ok (.iload_n 2, 1) := by decide +kernel
theorem dX10_addDevice_20 : decode cX10_addDevice 20 = .ok (.i2l, 1) := by decide +kernel
theorem dX10_addDevice_21 : decode cX10_addDevice 21 = .ok (.lconst 0, 1) := by decide +kernel
theorem dX10_addDevice_22 : decode cX10_addDevice 22 = .ok (.ldc2_w 183, 3) := by decide +kernel
theorem dX10_addDevice_25 : decode cX10_addDevice 25 = .ok (.invokestatic 47, 3) := by decide +kernel
theorem dX10_addDevice_28 : decode cX10_addDevice 28 = .ok (.ifCond .eq 15, 3) := by decide +kernel
theorem dX10_addDevice_31 : decode cX10_addDevice 31 = .ok (.iload_n 3, 1) := by decide +kernel
theorem dX10_addDevice_32 : decode cX10_addDevice 32 = .ok (.i2l, 1) := by decide +kernel
theorem dX10_addDevice_33 : decode cX10_addDevice 33 = .ok (.lconst 0, 1) := by decide +kernel
theorem dX10_addDevice_34 : decode cX10_addDevice 34 = .ok (.ldc2_w 198, 3) := by decide +kernel
theorem dX10_addDevice_37 : decode cX10_addDevice 37 = .ok (.invokestatic 47, 3) := by decide +kernel
theorem dX10_addDevice_40 : decode cX10_addDevice 40 = .ok (.ifCond .ne 9, 3) := by decide +kernel
theorem dX10_addDevice_43 : decode cX10_addDevice 43 = .ok (.aload_n 0, 1) := by decide +kernel
theorem dX10_addDevice_44 : decode cX10_addDevice 44 = .ok (.iconst 2, 1) := by decide +kernel
theorem dX10_addDevice_45 : decode cX10_addDevice 45 = .ok (.invokevirtual 105, 3) := by decide +kernel
theorem dX10_addDevice_48 : decode cX10_addDevice 48 = .ok (.ireturn, 1) := by decide +kernel
theorem dX10_addDevice_49 : decode cX10_addDevice 49 = .ok (.aload_n 0, 1) := by decide +kernel
theorem dX10_addDevice_50 : decode cX10_addDevice 50 = .ok (.getfield 7, 3) := by decide +kernel
theorem dX10_addDevice_53 : decode cX10_addDevice 53 = .ok (.iconst 1, 1) := by decide +kernel
theorem dX10_addDevice_54 : decode cX10_addDevice 54 = .ok (.iaload, 1) := by decide +kernel
theorem dX10_addDevice_55 : decode cX10_addDevice 55 = .ok (.bipush 6, 2) := by decide +kernel
theorem dX10_addDevice_57 : decode cX10_addDevice 57 = .ok (.if_icmp .ne 9, 3) := by decide +kernel
theorem dX10_addDevice_60 : decode cX10_addDevice 60 = .ok (.aload_n 0, 1) := by decide +kernel
theorem dX10_addDevice_61 : decode cX10_addDevice 61 = .ok (.iconst 3, 1) := by decide +kernel
theorem dX10_addDevice_62 : decode cX10_addDevice 62 = .ok (.invokevirtual 105, 3) := by decide +kernel
theorem dX10_addDevice_65 : decode cX10_addDevice 65 = .ok (.ireturn, 1) := by decide +kernel
theorem dX10_addDevice_66 : decode cX10_addDevice 66 = .ok (.aload_n 0, 1) := by decide +kernel
theorem dX10_addDevice_67 : decode cX10_addDevice 67 = .ok (.invokevirtual 185, 3) := by decide +kernel
theorem dX10_addDevice_70 : decode cX10_addDevice 70 = .ok (.aload_n 0, 1) := by decide +kernel
theorem dX10_addDevice_71 : decode cX10_addDevice 71 = .ok (.iload_n 1, 1) := by decide +kernel
theorem dX10_addDevice_72 : decode cX10_addDevice 72 = .ok (.iload_n 2, 1) := by decide +kernel
theorem dX10_addDevice_73 : decode cX10_addDevice 73 = .ok (.iload_n 3, 1) := by decide +kernel
theorem dX10_addDevice_74 : decode cX10_addDevice 74 = .ok (.invokevirtual 140, 3) := by decide +kernel
theorem dX10_addDevice_77 : decode cX10_addDevice 77 = .ok (.ireturn, 1) := by decide +kernel
theorem dX10_puts_0 : decode cX10_puts 0 = .ok (.aload_n 0, 1) := by decide +kernel
theorem dX10_puts_1 : decode cX10_puts 1 = .ok (.getfield 7, 3) := by decide +kernel
theorem dX10_puts_4 : decode cX10_puts 4 = .ok (.iload_n 1, 1) := by decide +kernel
theorem dX10_puts_5 : decode cX10_puts 5 = .ok (.iaload, 1) := by decide +kernel
theorem dX10_puts_6 : decode cX10_puts 6 = .ok (.istore_n 3, 1) := by decide +kernel
theorem dX10_puts_7 : decode cX10_puts 7 = .ok (.aload_n 0, 1) := by decide +kernel
theorem dX10_puts_8 : decode cX10_puts 8 = .ok (.getfield 7, 3) := by decide +kernel
theorem dX10_puts_11 : decode cX10_puts 11 = .ok (.iload_n 1, 1) := by decide +kernel
theorem dX10_puts_12 : decode cX10_puts 12 = .ok (.iload_n 2, 1) := by decide +kernel
theorem dX10_puts_13 : decode cX10_puts 13 = .ok (.iastore, 1) := by decide +kernel
theorem dX10_puts_14 : decode cX10_puts 14 = .ok (.iload_n 3, 1) := by decide +kernel
theorem dX10_puts_15 : decode cX10_puts 15 = .ok (.ireturn, 1) := by decide +kernel
set_option maxRecDepth 20000 in
theorem ggX10_setTolerance_X10_isDevice : GoodIn wsX10_setTolerance wsX10_isDevice := goodIn_r _ [7, 8, 9, 10, 6, 11, 28, 29, 30, 31, 32, 33, 34, 35, 36, 37, 38, 39, 40, 41, 42, 43, 44, 45, 46] (by decide +kernel) (by decide +kernel)
set_option maxRecDepth 20000 in
theorem gX10_setTolerance_X10_isDevice : GoodIn wsX10_setTolerance (wsV RX10 178 RX10 yX10_isDevice wsX10_isDevice) := goodIn_app (goodIn_of _ (by decide +kernel)) ggX10_setTolerance_X10_isDevice
set_option maxRecDepth 20000 in
theorem ggX10_setTolerance_X10_fails : GoodIn wsX10_setTolerance wsX10_fails := goodIn_r _ [15, 1, 28, 29, 30, 31, 32, 33, 34, 35, 36, 37, 38, 39, 40, 41, 42, 43, 44, 45, 46] (by decide +kernel) (by decide +kernel)
set_option maxRecDepth 20000 in
theorem gX10_setTolerance_X10_fails : GoodIn wsX10_setTolerance (wsV RX10 105 RX10 yX10_fails wsX10_fails) := goodIn_app (goodIn_of _ (by decide +kernel)) ggX10_setTolerance_X10_fails
set_option maxRecDepth 20000 in
theorem ggX10_setTolerance_X10_in : GoodIn wsX10_setTolerance wsX10_in := goodIn_r _ [11] (by decide +kernel) (by decide +kernel)
set_option maxRecDepth 20000 in
theorem gX10_setTolerance_X10_in : GoodIn wsX10_setTolerance (va_wsS RX10 47 yX10_in wsX10_in) := goodIn_app (goodIn_of _ (by decide +kernel)) ggX10_setTolerance_X10_in
set_option maxRecDepth 20000 in
theorem ggX10_setTolerance_X10_remember : GoodIn wsX10_setTolerance wsX10_remember := goodIn_r _ [19, 20, 21, 22, 8, 23, 28, 29, 30, 31, 32, 33, 34, 35, 36, 37, 38, 39, 40, 41, 42, 43, 44, 45, 46] (by decide +kernel) (by decide +kernel)
set_option maxRecDepth 20000 in
theorem gX10_setTolerance_X10_remember : GoodIn wsX10_setTolerance (wsV RX10 185 RX10 yX10_remember wsX10_remember) := goodIn_app (goodIn_of _ (by decide +kernel)) ggX10_setTolerance_X10_remember
set_option maxRecDepth 20000 in
theorem ggX10_setTolerance_X10_puts : GoodIn wsX10_setTolerance wsX10_puts := goodIn_r _ [27, 8, 28, 29, 30, 31, 32, 33, 34, 35, 36, 37, 38, 39, 40, 41, 42, 43, 44, 45, 46] (by decide +kernel) (by decide +kernel)
set_option maxRecDepth 20000 in
theorem gX10_setTolerance_X10_puts : GoodIn wsX10_setTolerance (wsV RX10 200 RX10 yX10_puts wsX10_puts) := goodIn_app (goodIn_of _ (by decide +kernel)) ggX10_setTolerance_X10_puts
theorem dX10_setTolerance_0 : decode cX10_setTolerance 0 = .ok (.aload_n 0, 1) := by decide +kernel
theorem dX10_setTolerance_1 : decode cX10_setTolerance 1 = .ok (.iconst 0, 1) := by decide +kernel
theorem dX10_setTolerance_2 : decode cX10_setTolerance 2 = .ok (.putfield 39, 3) := by decide +kernel
theorem dX10_setTolerance_5 : decode cX10_setTolerance 5 = .ok (.aload_n 0, 1) := by decide +kernel
theorem dX10_setTolerance_6 : decode cX10_setTolerance 6 = .ok (.iload_n 1, 1) := by decide +kernel
theorem dX10_setTolerance_7 : decode cX10_setTolerance 7 = .ok (.invokevirtual 178, 3) := by decide +kernel
theorem dX10_setTolerance_10 : decode cX10_setTolerance 10 = .ok (.ifCond .ne 9, 3) := by decide +kernel
theorem dX10_setTolerance_13 : decode cX10_setTolerance 13 = .ok (.aload_n 0, 1) := by decide +kernel
theorem dX10_setTolerance_14 : decode cX10_setTolerance 14 = .ok (.iconst 1, 1) := by decide +kernel
theorem dX10_setTolerance_15 : decode cX10_setTolerance 15 = .ok (.invokevirtual 105, 3) := by decide +kernel
theorem dX10_setTolerance_18 : decode cX10_setTolerance 18 = .ok (.ireturn, 1) := by decide +kernel
theorem dX10_setTolerance_19 : decode cX10_setTolerance 19 = .ok (.iload_n 2, 1) := by decide +kernel
theorem dX10_setTolerance_20 : decode cX10_setTolerance 20 = .ok (.i2l, 1) := by decide +kernel
theorem dX10_setTolerance_21 : decode cX10_setTolerance 21 = .ok (.lconst 0, 1) := by decide +kernel
theorem dX10_setTolerance_22 : decode cX10_setTolerance 22 = .ok (.ldc2_w 198, 3) := by decide +kernel
theorem dX10_setTolerance_25 : decode cX10_setTolerance 25 = .ok (.invokestatic 47, 3) := by decide +kernel
theorem dX10_setTolerance_28 : decode cX10_setTolerance 28 = .ok (.ifCond .ne 9, 3) := by decide +kernel
theorem dX10_setTolerance_31 : decode cX10_setTolerance 31 = .ok (.aload_n 0, 1) := by decide +kernel
theorem dX10_setTolerance_32 : decode cX10_setTolerance 32 = .ok (.iconst 2, 1) := by decide +kernel
theorem dX10_setTolerance_33 : decode cX10_setTolerance 33 = .ok (.invokevirtual 105, 3) := by decide +kernel
theorem dX10_setTolerance_36 : decode cX10_setTolerance 36 = .ok (.ireturn, 1) := by decide +kernel
theorem dX10_setTolerance_37 : decode cX10_setTolerance 37 = .ok (.aload_n 0, 1) := by decide +kernel
theorem dX10_setTolerance_38 : decode cX10_setTolerance 38 = .ok (.invokevirtual 185, 3) := by decide +kernel
theorem dX10_setTolerance_41 : decode cX10_setTolerance 41 = .ok (.aload_n 0, 1) := by decide +kernel
theorem dX10_setTolerance_42 : decode cX10_setTolerance 42 = .ok (.sipush 259, 3) := by decide +kernel
theorem dX10_setTolerance_45 : decode cX10_setTolerance 45 = .ok (.iconst 4, 1) := by decide +kernel
theorem dX10_setTolerance_46 : decode cX10_setTolerance 46 = .ok (.iload_n 1, 1) := by decide +kernel
theorem dX10_setTolerance_47 : decode cX10_setTolerance 47 = .ok (.imul, 1) := by decide +kernel
theorem dX10_setTolerance_48 : decode cX10_setTolerance 48 = .ok (.iadd, 1) := by decide +kernel
theorem dX10_setTolerance_49 : decode cX10_setTolerance 49 = .ok (.iconst 2, 1) := by decide +kernel
theorem dX10_setTolerance_50 : decode cX10_setTolerance 50 = .ok (.iadd, 1) := by decide +kernel
theorem dX10_setTolerance_51 : decode cX10_setTolerance 51 = .ok (.iload_n 2, 1) := by decide +kernel
theorem dX10_setTolerance_52 : decode cX10_setTolerance 52 = .ok (.invokevirtual 200, 3) := by decide +kernel
theorem dX10_setTolerance_55 : decode cX10_setTolerance 55 = .ok (.ireturn, 1) := by decide +kernel
set_option maxRecDepth 20000 in
theorem ggX10_isSetting_X10_in : GoodIn wsX10_isSetting wsX10_in := goodIn_r _ [6] (by decide +kernel) (by decide +kernel)
set_option maxRecDepth 20000 in
theorem gX10_isSetting_X10_in : GoodIn wsX10_isSetting (va_wsS RX10 47 yX10_in wsX10_in) := goodIn_app (goodIn_of _ (by decide +kernel)) ggX10_isSetting_X10_in
theorem dX10_isSetting_0 : decode cX10_isSetting 0 = .ok (.iload_n 0, 1) := by decide +kernel
theorem dX10_isSetting_1 : decode cX10_isSetting 1 = .ok (.i2l, 1) := by decide +kernel
theorem dX10_isSetting_2 : decode cX10_isSetting 2 = .ok (.lconst 0, 1) := by decide +kernel
theorem dX10_isSetting_3 : decode cX10_isSetting 3 = .ok (.lconst 1, 1) := by decide +kernel
theorem dX10_isSetting_4 : decode cX10_isSetting 4 = .ok (.invokestatic 47, 3) := by decide +kernel
theorem dX10_isSetting_7 : decode cX10_isSetting 7 = .ok (.ifCond .eq 29, 3) := by decide +kernel
theorem dX10_isSetting_10 : decode cX10_isSetting 10 = .ok (.iload_n 1, 1) := by decide +kernel
theorem dX10_isSetting_11 : decode cX10_isSetting 11 = .ok (.i2l, 1) := by decide +kernel
theorem dX10_isSetting_12 : decode cX10_isSetting 12 = .ok (.lconst 0, 1) := by decide +kernel
theorem dX10_isSetting_13 : decode cX10_isSetting 13 = .ok (.iload_n 0, 1) := by decide +kernel
theorem dX10_isSetting_14 : decode cX10_isSetting 14 = .ok (.ifCond .ne 9, 3) := by decide +kernel
theorem dX10_isSetting_17 : decode cX10_isSetting 17 = .ok (.ldc2_w 198, 3) := by decide +kernel
theorem dX10_isSetting_20 : decode cX10_isSetting 20 = .ok (.goto 6, 3) := by decide +kernel
theorem dX10_isSetting_23 : decode cX10_isSetting 23 = .ok (.ldc2_w 203, 3) := by decide +kernel
theorem dX10_isSetting_26 : decode cX10_isSetting 26 = .ok (.invokestatic 47, 3) := by decide +kernel
theorem dX10_isSetting_29 : decode cX10_isSetting 29 = .ok (.ifCond .eq 7, 3) := by decide +kernel
theorem dX10_isSetting_32 : decode cX10_isSetting 32 = .ok (.iconst 1, 1) := by decide +kernel
theorem dX10_isSetting_33 : decode cX10_isSetting 33 = .ok (.goto 4, 3) := by decide +kernel
theorem dX10_isSetting_36 : decode cX10_isSetting 36 = .ok (.iconst 0, 1) := by decide +kernel
theorem dX10_isSetting_37 : decode cX10_isSetting 37 = .ok (.ireturn, 1) := by decide +kernel
set_option maxRecDepth 20000 in
theorem ggX10_set_X10_isSetting : GoodIn wsX10_set wsX10_isSetting := goodIn_r _ [5, 6, 7, 8, 9, 4, 10] (by decide +kernel) (by decide +kernel)
set_option maxRecDepth 20000 in
theorem gX10_set_X10_isSetting : GoodIn wsX10_set (va_wsS RX10 205 yX10_isSetting wsX10_isSetting) := goodIn_app (goodIn_of _ (by decide +kernel)) ggX10_set_X10_isSetting
set_option maxRecDepth 20000 in
theorem ggX10_set_X10_fails : GoodIn wsX10_set wsX10_fails := goodIn_r _ [14, 1, 28, 29, 30, 31, 32, 33, 34, 35, 36, 37, 38, 39, 40, 41, 42, 43, 44, 45, 46] (by decide +kernel) (by decide +kernel)
set_option maxRecDepth 20000 in
theorem gX10_set_X10_fails : GoodIn wsX10_set (wsV RX10 105 RX10 yX10_fails wsX10_fails) := goodIn_app (goodIn_of _ (by decide +kernel)) ggX10_set_X10_fails
set_option maxRecDepth 20000 in
theorem ggX10_set_X10_remember : GoodIn wsX10_set wsX10_remember := goodIn_r _ [18, 19, 20, 21, 22, 23, 28, 29, 30, 31, 32, 33, 34, 35, 36, 37, 38, 39, 40, 41, 42, 43, 44, 45, 46] (by decide +kernel) (by decide +kernel)
set_option maxRecDepth 20000 in
theorem gX10_set_X10_remember : GoodIn wsX10_set (wsV RX10 185 RX10 yX10_remember wsX10_remember) := goodIn_app (goodIn_of _ (by decide +kernel)) ggX10_set_X10_remember
set_option maxRecDepth 20000 in
theorem ggX10_set_X10_puts : GoodIn wsX10_set wsX10_puts := goodIn_r _ [27, 22, 28, 29, 30, 31, 32, 33, 34, 35, 36, 37, 38, 39, 40, 41, 42, 43, 44, 45, 46] (by decide +kernel) (by decide +kernel)
set_option maxRecDepth 20000 in
theorem gX10_set_X10_puts : GoodIn wsX10_set (wsV RX10 200 RX10 yX10_puts wsX10_puts) := goodIn_app (goodIn_of _ (by decide +kernel)) ggX10_set_X10_puts
theorem dX10_set_0 : decode cX10_set 0 = .ok (.aload_n 0, 1) := by decide +kernel
theorem dX10_set_1 : decode cX10_set 1 = .ok (.iconst 0, 1) := by decide +kernel
theorem dX10_set_2 : decode cX10_set 2 = .ok (.putfield 39, 3) := by decide +kernel
theorem dX10_set_5 : decode cX10_set 5 = .ok (.iload_n 1, 1) := by decide +kernel
theorem dX10_set_6 : decode cX10_set 6 = .ok (.iload_n 2, 1) := by decide +kernel
theorem dX10_set_7 : decode cX10_set 7 = .ok (.invokestatic 205, 3) := by decide +kernel
theorem dX10_set_10 : decode cX10_set 10 = .ok (.ifCond .ne 9, 3) := by decide +kernel
theorem dX10_set_13 : decode cX10_set 13 = .ok (.aload_n 0, 1) := by decide +kernel
theorem dX10_set_14 : decode cX10_set 14 = .ok (.iconst 1, 1) := by decide +kernel
theorem dX10_set_15 : decode cX10_set 15 = .ok (.invokevirtual 105, 3) := by decide +kernel
theorem dX10_set_18 : decode cX10_set 18 = .ok (.ireturn, 1) := by decide +kernel
theorem dX10_set_19 : decode cX10_set 19 = .ok (.aload_n 0, 1) := by decide +kernel
theorem dX10_set_20 : decode cX10_set 20 = .ok (.invokevirtual 185, 3) := by decide +kernel
theorem dX10_set_23 : decode cX10_set 23 = .ok (.aload_n 0, 1) := by decide +kernel
theorem dX10_set_24 : decode cX10_set 24 = .ok (.iconst 3, 1) := by decide +kernel
theorem dX10_set_25 : decode cX10_set 25 = .ok (.iload_n 1, 1) := by decide +kernel
theorem dX10_set_26 : decode cX10_set 26 = .ok (.iadd, 1) := by decide +kernel
theorem dX10_set_27 : decode cX10_set 27 = .ok (.iload_n 2, 1) := by decide +kernel
theorem dX10_set_28 : decode cX10_set 28 = .ok (.invokevirtual 200, 3) := by decide +kernel
theorem dX10_set_31 : decode cX10_set 31 = .ok (.ireturn, 1) := by decide +kernel
set_option maxRecDepth 20000 in
theorem ggX10_undo_X10_fails : GoodIn wsX10_undo wsX10_fails := goodIn_r _ [11, 1, 12, 13, 14, 15, 16, 17, 18, 19, 20, 21, 22, 23, 24, 25, 26, 27, 28, 29, 30] (by decide +kernel) (by decide +kernel)
set_option maxRecDepth 20000 in
theorem gX10_undo_X10_fails : GoodIn wsX10_undo (wsV RX10 105 RX10 yX10_fails wsX10_fails) := goodIn_app (goodIn_of _ (by decide +kernel)) ggX10_undo_X10_fails
theorem dX10_undo_0 : decode cX10_undo 0 = .ok (.aload_n 0, 1) := by decide +kernel
theorem dX10_undo_1 : decode cX10_undo 1 = .ok (.iconst 0, 1) := by decide +kernel
theorem dX10_undo_2 : decode cX10_undo 2 = .ok (.putfield 39, 3) := by decide +kernel
theorem dX10_undo_5 : decode cX10_undo 5 = .ok (.aload_n 0, 1) := by decide +kernel
theorem dX10_undo_6 : decode cX10_undo 6 = .ok (.getfield 58, 3) := by decide +kernel
theorem dX10_undo_9 : decode cX10_undo 9 = .ok (.ifCond .ne 9, 3) := by decide +kernel
theorem dX10_undo_12 : decode cX10_undo 12 = .ok (.aload_n 0, 1) := by decide +kernel
theorem dX10_undo_13 : decode cX10_undo 13 = .ok (.iconst 1, 1) := by decide +kernel
theorem dX10_undo_14 : decode cX10_undo 14 = .ok (.invokevirtual 105, 3) := by decide +kernel
theorem dX10_undo_17 : decode cX10_undo 17 = .ok (.ireturn, 1) := by decide +kernel
theorem dX10_undo_18 : decode cX10_undo 18 = .ok (.aload_n 0, 1) := by decide +kernel
theorem dX10_undo_19 : decode cX10_undo 19 = .ok (.dup, 1) := by decide +kernel
theorem dX10_undo_20 : decode cX10_undo 20 = .ok (.getfield 58, 3) := by decide +kernel
theorem dX10_undo_23 : decode cX10_undo 23 = .ok (.iconst 1, 1) := by decide +kernel
theorem dX10_undo_24 : decode cX10_undo 24 = .ok (.isub, 1) := by decide +kernel
theorem dX10_undo_25 : decode cX10_undo 25 = .ok (.putfield 58, 3) := by decide +kernel
theorem dX10_undo_28 : decode cX10_undo 28 = .ok (.iconst 0, 1) := by decide +kernel
theorem dX10_undo_29 : decode cX10_undo 29 = .ok (.istore_n 1, 1) := by decide +kernel
theorem dX10_undo_30 : decode cX10_undo 30 = .ok (.iload_n 1, 1) := by decide +kernel
theorem dX10_undo_31 : decode cX10_undo 31 = .ok (.sipush 283, 3) := by decide +kernel
theorem dX10_undo_34 : decode cX10_undo 34 = .ok (.if_icmp .ge 30, 3) := by decide +kernel
theorem dX10_undo_37 : decode cX10_undo 37 = .ok (.aload_n 0, 1) := by decide +kernel
theorem dX10_undo_38 : decode cX10_undo 38 = .ok (.getfield 7, 3) := by decide +kernel
theorem dX10_undo_41 : decode cX10_undo 41 = .ok (.iload_n 1, 1) := by decide +kernel
theorem dX10_undo_42 : decode cX10_undo 42 = .ok (.aload_n 0, 1) := by decide +kernel
theorem dX10_undo_43 : decode cX10_undo 43 = .ok (.getfield 16, 3) := by decide +kernel
theorem dX10_undo_46 : decode cX10_undo 46 = .ok (.sipush 283, 3) := by decide +kernel
theorem dX10_undo_49 : decode cX10_undo 49 = .ok (.aload_n 0, 1) := by decide +kernel
theorem dX10_undo_50 : decode cX10_undo 50 = .ok (.getfield 58, 3) := by decide +kernel
theorem dX10_undo_53 : decode cX10_undo 53 = .ok (.imul, 1) := by decide +kernel
theorem dX10_undo_54 : decode cX10_undo 54 = .ok (.iload_n 1, 1) := by decide +kernel
theorem dX10_undo_55 : decode cX10_undo 55 = .ok (.iadd, 1) := by decide +kernel
theorem dX10_undo_56 : decode cX10_undo 56 = .ok (.iaload, 1) := by decide +kernel
theorem dX10_undo_57 : decode cX10_undo 57 = .ok (.iastore, 1) := by decide +kernel
theorem dX10_undo_58 : decode cX10_undo 58 = .ok (.iinc 1 1, 3) := by decide +kernel
theorem dX10_undo_61 : decode cX10_undo 61 = .ok (.goto (-31), 3) := by decide +kernel
theorem dX10_undo_64 : decode cX10_undo 64 = .ok (.aload_n 0, 1) := by decide +kernel
theorem dX10_undo_65 : decode cX10_undo 65 = .ok (.aload_n 0, 1) := by decide +kernel
theorem dX10_undo_66 : decode cX10_undo 66 = .ok (.getfield 19, 3) := by decide +kernel
theorem dX10_undo_69 : decode cX10_undo 69 = .ok (.aload_n 0, 1) := by decide +kernel
theorem dX10_undo_70 : decode cX10_undo 70 = .ok (.getfield 58, 3) := by decide +kernel
theorem dX10_undo_73 : decode cX10_undo 73 = .ok (.laload, 1) := by decide +kernel
theorem dX10_undo_74 : decode cX10_undo 74 = .ok (.putfield 51, 3) := by decide +kernel
theorem dX10_undo_77 : decode cX10_undo 77 = .ok (.aload_n 0, 1) := by decide +kernel
theorem dX10_undo_78 : decode cX10_undo 78 = .ok (.getfield 58, 3) := by decide +kernel
theorem dX10_undo_81 : decode cX10_undo 81 = .ok (.ireturn, 1) := by decide +kernel
set_option maxRecDepth 20000 in
theorem ggX10_handedOn_X10_far : GoodIn wsX10_handedOn wsX10_far := goodIn_r _ [4] (by decide +kernel) (by decide +kernel)
set_option maxRecDepth 20000 in
theorem gX10_handedOn_X10_far : GoodIn wsX10_handedOn (va_wsS RX10 76 yX10_far wsX10_far) := goodIn_app (goodIn_of _ (by decide +kernel)) ggX10_handedOn_X10_far
set_option maxRecDepth 20000 in
theorem ggX10_handedOn_X10_wrongBit : GoodIn wsX10_handedOn wsX10_wrongBit := goodIn_r _ [8, 9, 10, 11, 12, 16, 17, 18, 19, 20, 21, 22, 23, 24, 25, 26, 27, 28, 29, 30, 31, 32, 33, 34] (by decide +kernel) (by decide +kernel)
set_option maxRecDepth 20000 in
theorem gX10_handedOn_X10_wrongBit : GoodIn wsX10_handedOn (wsV RX10 79 RX10 yX10_wrongBit wsX10_wrongBit) := goodIn_app (goodIn_of _ (by decide +kernel)) ggX10_handedOn_X10_wrongBit
set_option maxRecDepth 20000 in
theorem ggX10_handedOn_X10_changed : GoodIn wsX10_handedOn wsX10_changed := goodIn_r _ [15] (by decide +kernel) (by decide +kernel)
set_option maxRecDepth 20000 in
theorem gX10_handedOn_X10_changed : GoodIn wsX10_handedOn (va_wsS RX10 83 yX10_changed wsX10_changed) := goodIn_app (goodIn_of _ (by decide +kernel)) ggX10_handedOn_X10_changed
theorem dX10_handedOn_0 : decode cX10_handedOn 0 = .ok (.iload_n 1, 1) := by decide +kernel
theorem dX10_handedOn_1 : decode cX10_handedOn 1 = .ok (.istore 4, 2) := by decide +kernel
theorem dX10_handedOn_3 : decode cX10_handedOn 3 = .ok (.iload_n 2, 1) := by decide +kernel
theorem dX10_handedOn_4 : decode cX10_handedOn 4 = .ok (.iload_n 3, 1) := by decide +kernel
theorem dX10_handedOn_5 : decode cX10_handedOn 5 = .ok (.invokestatic 76, 3) := by decide +kernel
theorem dX10_handedOn_8 : decode cX10_handedOn 8 = .ok (.istore 5, 2) := by decide +kernel
theorem dX10_handedOn_10 : decode cX10_handedOn 10 = .ok (.iload 5, 2) := by decide +kernel
theorem dX10_handedOn_12 : decode cX10_handedOn 12 = .ok (.ifCond .le 21, 3) := by decide +kernel
theorem dX10_handedOn_15 : decode cX10_handedOn 15 = .ok (.iload 4, 2) := by decide +kernel
theorem dX10_handedOn_17 : decode cX10_handedOn 17 = .ok (.aload_n 0, 1) := by decide +kernel
theorem dX10_handedOn_18 : decode cX10_handedOn 18 = .ok (.iconst 1, 1) := by decide +kernel
theorem dX10_handedOn_19 : decode cX10_handedOn 19 = .ok (.invokevirtual 79, 3) := by decide +kernel
theorem dX10_handedOn_22 : decode cX10_handedOn 22 = .ok (.invokestatic 83, 3) := by decide +kernel
theorem dX10_handedOn_25 : decode cX10_handedOn 25 = .ok (.istore 4, 2) := by decide +kernel
theorem dX10_handedOn_27 : decode cX10_handedOn 27 = .ok (.iinc 5 (-1), 3) := by decide +kernel
theorem dX10_handedOn_30 : decode cX10_handedOn 30 = .ok (.goto (-20), 3) := by decide +kernel
theorem dX10_handedOn_33 : decode cX10_handedOn 33 = .ok (.iload 4, 2) := by decide +kernel
theorem dX10_handedOn_35 : decode cX10_handedOn 35 = .ok (.ireturn, 1) := by decide +kernel
set_option maxRecDepth 20000 in
theorem ggX10_learned_X10_keyAt : GoodIn wsX10_learned wsX10_keyAt := goodIn_r _ [6] (by decide +kernel) (by decide +kernel)
set_option maxRecDepth 20000 in
theorem gX10_learned_X10_keyAt : GoodIn wsX10_learned (va_wsS RX10 69 yX10_keyAt wsX10_keyAt) := goodIn_app (goodIn_of _ (by decide +kernel)) ggX10_learned_X10_keyAt
set_option maxRecDepth 20000 in
theorem ggX10_learned_X10_of : GoodIn wsX10_learned wsX10_of := goodIn_r _ [10, 2, 23, 24, 25, 26, 27, 28, 29, 30, 31, 32, 33, 34, 35, 36, 37, 38, 39, 40, 41] (by decide +kernel) (by decide +kernel)
set_option maxRecDepth 20000 in
theorem gX10_learned_X10_of : GoodIn wsX10_learned (wsV RX10 65 RX10 yX10_of wsX10_of) := goodIn_app (goodIn_of _ (by decide +kernel)) ggX10_learned_X10_of
set_option maxRecDepth 20000 in
theorem ggX10_learned_X10_far : GoodIn wsX10_learned wsX10_far := goodIn_r _ [13] (by decide +kernel) (by decide +kernel)
set_option maxRecDepth 20000 in
theorem gX10_learned_X10_far : GoodIn wsX10_learned (va_wsS RX10 76 yX10_far wsX10_far) := goodIn_app (goodIn_of _ (by decide +kernel)) ggX10_learned_X10_far
set_option maxRecDepth 20000 in
theorem ggX10_learned_X10_wrongBit : GoodIn wsX10_learned wsX10_wrongBit := goodIn_r _ [17, 1, 18, 19, 2, 23, 24, 25, 26, 27, 28, 29, 30, 31, 32, 33, 34, 35, 36, 37, 38, 39, 40, 41] (by decide +kernel) (by decide +kernel)
set_option maxRecDepth 20000 in
theorem gX10_learned_X10_wrongBit : GoodIn wsX10_learned (wsV RX10 79 RX10 yX10_wrongBit wsX10_wrongBit) := goodIn_app (goodIn_of _ (by decide +kernel)) ggX10_learned_X10_wrongBit
set_option maxRecDepth 20000 in
theorem ggX10_learned_X10_changed : GoodIn wsX10_learned wsX10_changed := goodIn_r _ [22] (by decide +kernel) (by decide +kernel)
set_option maxRecDepth 20000 in
theorem gX10_learned_X10_changed : GoodIn wsX10_learned (va_wsS RX10 83 yX10_changed wsX10_changed) := goodIn_app (goodIn_of _ (by decide +kernel)) ggX10_learned_X10_changed
theorem dX10_learned_0 : decode cX10_learned 0 = .ok (.aload_n 0, 1) := by decide +kernel
theorem dX10_learned_1 : decode cX10_learned 1 = .ok (.getfield 51, 3) := by decide +kernel
theorem dX10_learned_4 : decode cX10_learned 4 = .ok (.lstore 4, 2) := by decide +kernel
theorem dX10_learned_6 : decode cX10_learned 6 = .ok (.aload_n 0, 1) := by decide +kernel
theorem dX10_learned_7 : decode cX10_learned 7 = .ok (.aload_n 0, 1) := by decide +kernel
theorem dX10_learned_8 : decode cX10_learned 8 = .ok (.getfield 7, 3) := by decide +kernel
theorem dX10_learned_11 : decode cX10_learned 11 = .ok (.iload_n 1, 1) := by decide +kernel
theorem dX10_learned_12 : decode cX10_learned 12 = .ok (.iload_n 2, 1) := by decide +kernel
theorem dX10_learned_13 : decode cX10_learned 13 = .ok (.invokestatic 69, 3) := by decide +kernel
theorem dX10_learned_16 : decode cX10_learned 16 = .ok (.iaload, 1) := by decide +kernel
theorem dX10_learned_17 : decode cX10_learned 17 = .ok (.iconst 0, 1) := by decide +kernel
theorem dX10_learned_18 : decode cX10_learned 18 = .ok (.invokevirtual 65, 3) := by decide +kernel
theorem dX10_learned_21 : decode cX10_learned 21 = .ok (.aload_n 0, 1) := by decide +kernel
theorem dX10_learned_22 : decode cX10_learned 22 = .ok (.iload_n 1, 1) := by decide +kernel
theorem dX10_learned_23 : decode cX10_learned 23 = .ok (.iload_n 3, 1) := by decide +kernel
theorem dX10_learned_24 : decode cX10_learned 24 = .ok (.invokestatic 76, 3) := by decide +kernel
theorem dX10_learned_27 : decode cX10_learned 27 = .ok (.invokevirtual 79, 3) := by decide +kernel
theorem dX10_learned_30 : decode cX10_learned 30 = .ok (.invokestatic 83, 3) := by decide +kernel
theorem dX10_learned_33 : decode cX10_learned 33 = .ok (.istore 6, 2) := by decide +kernel
theorem dX10_learned_35 : decode cX10_learned 35 = .ok (.aload_n 0, 1) := by decide +kernel
theorem dX10_learned_36 : decode cX10_learned 36 = .ok (.lload 4, 2) := by decide +kernel
theorem dX10_learned_38 : decode cX10_learned 38 = .ok (.putfield 51, 3) := by decide +kernel
theorem dX10_learned_41 : decode cX10_learned 41 = .ok (.iload 6, 2) := by decide +kernel
theorem dX10_learned_43 : decode cX10_learned 43 = .ok (.ireturn, 1) := by decide +kernel
set_option maxRecDepth 20000 in
theorem ggX10_wouldBe_X10_isKey : GoodIn wsX10_wouldBe wsX10_isKey := goodIn_r _ [7, 8, 9, 10, 11, 6, 12, 2, 13, 14, 15, 44, 45, 46, 47, 48, 49, 50, 51, 52, 53, 54, 55, 56, 57, 58, 59, 60, 61, 62] (by decide +kernel) (by decide +kernel)
set_option maxRecDepth 20000 in
theorem gX10_wouldBe_X10_isKey : GoodIn wsX10_wouldBe (wsV RX10 161 RX10 yX10_isKey wsX10_isKey) := goodIn_app (goodIn_of _ (by decide +kernel)) ggX10_wouldBe_X10_isKey
set_option maxRecDepth 20000 in
theorem ggX10_wouldBe_X10_isHouse : GoodIn wsX10_wouldBe wsX10_isHouse := goodIn_r _ [12, 2, 13, 14, 6, 15, 44, 45, 46, 47, 48, 49, 50, 51, 52, 53, 54, 55, 56, 57, 58, 59, 60, 61, 62] (by decide +kernel) (by decide +kernel)
set_option maxRecDepth 20000 in
theorem gX10_wouldBe_X10_isHouse : GoodIn wsX10_wouldBe (wsV RX10 61 RX10 yX10_isHouse wsX10_isHouse) := goodIn_app (goodIn_of _ (by decide +kernel)) ggX10_wouldBe_X10_isHouse
set_option maxRecDepth 20000 in
theorem ggX10_wouldBe_X10_fails : GoodIn wsX10_wouldBe wsX10_fails := goodIn_r _ [19, 1, 44, 45, 46, 47, 48, 49, 50, 51, 52, 53, 54, 55, 56, 57, 58, 59, 60, 61, 62] (by decide +kernel) (by decide +kernel)
set_option maxRecDepth 20000 in
theorem gX10_wouldBe_X10_fails : GoodIn wsX10_wouldBe (wsV RX10 105 RX10 yX10_fails wsX10_fails) := goodIn_app (goodIn_of _ (by decide +kernel)) ggX10_wouldBe_X10_fails
set_option maxRecDepth 20000 in
theorem ggX10_wouldBe_X10_keyAt : GoodIn wsX10_wouldBe wsX10_keyAt := goodIn_r _ [22] (by decide +kernel) (by decide +kernel)
set_option maxRecDepth 20000 in
theorem gX10_wouldBe_X10_keyAt : GoodIn wsX10_wouldBe (va_wsS RX10 69 yX10_keyAt wsX10_keyAt) := goodIn_app (goodIn_of _ (by decide +kernel)) ggX10_wouldBe_X10_keyAt
set_option maxRecDepth 20000 in
theorem ggX10_wouldBe_X10_learned : GoodIn wsX10_wouldBe wsX10_learned := goodIn_r _ [26, 27, 2, 20, 21, 6, 22, 28, 29, 30, 31, 32, 33, 34, 35, 36, 37, 38, 39, 40, 41, 42, 43, 44, 45, 46, 47, 48, 49, 50, 51, 52, 53, 54, 55, 56, 57, 58, 59, 60, 61, 62] (by decide +kernel) (by decide +kernel)
set_option maxRecDepth 20000 in
theorem gX10_wouldBe_X10_learned : GoodIn wsX10_wouldBe (wsV RX10 208 RX10 yX10_learned wsX10_learned) := goodIn_app (goodIn_of _ (by decide +kernel)) ggX10_wouldBe_X10_learned
theorem dX10_wouldBe_0 : decode cX10_wouldBe 0 = .ok (.aload_n 0, 1) := by decide +kernel
theorem dX10_wouldBe_1 : decode cX10_wouldBe 1 = .ok (.iconst 0, 1) := by decide +kernel
theorem dX10_wouldBe_2 : decode cX10_wouldBe 2 = .ok (.putfield 39, 3) := by decide +kernel
theorem dX10_wouldBe_5 : decode cX10_wouldBe 5 = .ok (.aload_n 0, 1) := by decide +kernel
theorem dX10_wouldBe_6 : decode cX10_wouldBe 6 = .ok (.iload_n 1, 1) := by decide +kernel
theorem dX10_wouldBe_7 : decode cX10_wouldBe 7 = .ok (.iload_n 2, 1) := by decide +kernel
theorem dX10_wouldBe_8 : decode cX10_wouldBe 8 = .ok (.invokevirtual 161, 3) := by decide +kernel
theorem dX10_wouldBe_11 : decode cX10_wouldBe 11 = .ok (.ifCond .eq 11, 3) := by decide +kernel
theorem dX10_wouldBe_14 : decode cX10_wouldBe 14 = .ok (.aload_n 0, 1) := by decide +kernel
theorem dX10_wouldBe_15 : decode cX10_wouldBe 15 = .ok (.iload_n 3, 1) := by decide +kernel
theorem dX10_wouldBe_16 : decode cX10_wouldBe 16 = .ok (.invokevirtual 61, 3) := by decide +kernel
theorem dX10_wouldBe_19 : decode cX10_wouldBe 19 = .ok (.ifCond .ne 9, 3) := by decide +kernel
theorem dX10_wouldBe_22 : decode cX10_wouldBe 22 = .ok (.aload_n 0, 1) := by decide +kernel
theorem dX10_wouldBe_23 : decode cX10_wouldBe 23 = .ok (.iconst 1, 1) := by decide +kernel
theorem dX10_wouldBe_24 : decode cX10_wouldBe 24 = .ok (.invokevirtual 105, 3) := by decide +kernel
theorem dX10_wouldBe_27 : decode cX10_wouldBe 27 = .ok (.ireturn, 1) := by decide +kernel
theorem dX10_wouldBe_28 : decode cX10_wouldBe 28 = .ok (.aload_n 0, 1) := by decide +kernel
theorem dX10_wouldBe_29 : decode cX10_wouldBe 29 = .ok (.getfield 7, 3) := by decide +kernel
theorem dX10_wouldBe_32 : decode cX10_wouldBe 32 = .ok (.iload_n 1, 1) := by decide +kernel
theorem dX10_wouldBe_33 : decode cX10_wouldBe 33 = .ok (.iload_n 2, 1) := by decide +kernel
theorem dX10_wouldBe_34 : decode cX10_wouldBe 34 = .ok (.invokestatic 69, 3) := by decide +kernel
theorem dX10_wouldBe_37 : decode cX10_wouldBe 37 = .ok (.iaload, 1) := by decide +kernel
theorem dX10_wouldBe_38 : decode cX10_wouldBe 38 = .ok (.ifCond .ge 8, 3) := by decide +kernel
theorem dX10_wouldBe_41 : decode cX10_wouldBe 41 = .ok (.bipush (-9), 2) := by decide +kernel
theorem dX10_wouldBe_43 : decode cX10_wouldBe 43 = .ok (.goto 10, 3) := by decide +kernel
theorem dX10_wouldBe_46 : decode cX10_wouldBe 46 = .ok (.aload_n 0, 1) := by decide +kernel
theorem dX10_wouldBe_47 : decode cX10_wouldBe 47 = .ok (.iload_n 1, 1) := by decide +kernel
theorem dX10_wouldBe_48 : decode cX10_wouldBe 48 = .ok (.iload_n 2, 1) := by decide +kernel
theorem dX10_wouldBe_49 : decode cX10_wouldBe 49 = .ok (.iload_n 3, 1) := by decide +kernel
theorem dX10_wouldBe_50 : decode cX10_wouldBe 50 = .ok (.invokevirtual 208, 3) := by decide +kernel
theorem dX10_wouldBe_53 : decode cX10_wouldBe 53 = .ok (.ireturn, 1) := by decide +kernel
set_option maxRecDepth 20000 in
theorem ggX10_handed_X10_isKey : GoodIn wsX10_handed wsX10_isKey := goodIn_r _ [8, 9, 10, 11, 12, 7, 13, 2, 14, 15, 16, 44, 45, 46, 47, 48, 49, 50, 51, 52, 53, 54, 55, 56, 57, 58, 59, 60, 61, 62] (by decide +kernel) (by decide +kernel)
set_option maxRecDepth 20000 in
theorem gX10_handed_X10_isKey : GoodIn wsX10_handed (wsV RX10 161 RX10 yX10_isKey wsX10_isKey) := goodIn_app (goodIn_of _ (by decide +kernel)) ggX10_handed_X10_isKey
set_option maxRecDepth 20000 in
theorem ggX10_handed_X10_isHouse : GoodIn wsX10_handed wsX10_isHouse := goodIn_r _ [13, 2, 14, 15, 7, 16, 44, 45, 46, 47, 48, 49, 50, 51, 52, 53, 54, 55, 56, 57, 58, 59, 60, 61, 62] (by decide +kernel) (by decide +kernel)
set_option maxRecDepth 20000 in
theorem gX10_handed_X10_isHouse : GoodIn wsX10_handed (wsV RX10 61 RX10 yX10_isHouse wsX10_isHouse) := goodIn_app (goodIn_of _ (by decide +kernel)) ggX10_handed_X10_isHouse
set_option maxRecDepth 20000 in
theorem ggX10_handed_X10_fails : GoodIn wsX10_handed wsX10_fails := goodIn_r _ [20, 1, 44, 45, 46, 47, 48, 49, 50, 51, 52, 53, 54, 55, 56, 57, 58, 59, 60, 61, 62] (by decide +kernel) (by decide +kernel)
set_option maxRecDepth 20000 in
theorem gX10_handed_X10_fails : GoodIn wsX10_handed (wsV RX10 105 RX10 yX10_fails wsX10_fails) := goodIn_app (goodIn_of _ (by decide +kernel)) ggX10_handed_X10_fails
set_option maxRecDepth 20000 in
theorem ggX10_handed_X10_keyAt : GoodIn wsX10_handed wsX10_keyAt := goodIn_r _ [23] (by decide +kernel) (by decide +kernel)
set_option maxRecDepth 20000 in
theorem gX10_handed_X10_keyAt : GoodIn wsX10_handed (va_wsS RX10 69 yX10_keyAt wsX10_keyAt) := goodIn_app (goodIn_of _ (by decide +kernel)) ggX10_handed_X10_keyAt
set_option maxRecDepth 20000 in
theorem ggX10_handed_X10_of : GoodIn wsX10_handed wsX10_of := goodIn_r _ [27, 2, 44, 45, 46, 47, 48, 49, 50, 51, 52, 53, 54, 55, 56, 57, 58, 59, 60, 61, 62] (by decide +kernel) (by decide +kernel)
set_option maxRecDepth 20000 in
theorem gX10_handed_X10_of : GoodIn wsX10_handed (wsV RX10 65 RX10 yX10_of wsX10_of) := goodIn_app (goodIn_of _ (by decide +kernel)) ggX10_handed_X10_of
set_option maxRecDepth 20000 in
theorem ggX10_handed_X10_handedOn : GoodIn wsX10_handed wsX10_handedOn := goodIn_r _ [31, 32, 33, 7, 34, 35, 36, 37, 38, 3, 39, 40, 2, 41, 42, 43, 44, 45, 46, 47, 48, 49, 50, 51, 52, 53, 54, 55, 56, 57, 58, 59, 60, 61, 62] (by decide +kernel) (by decide +kernel)
set_option maxRecDepth 20000 in
theorem gX10_handed_X10_handedOn : GoodIn wsX10_handed (wsV RX10 211 RX10 yX10_handedOn wsX10_handedOn) := goodIn_app (goodIn_of _ (by decide +kernel)) ggX10_handed_X10_handedOn
theorem dX10_handed_0 : decode cX10_handed 0 = .ok (.aload_n 0, 1) := by decide +kernel
theorem dX10_handed_1 : decode cX10_handed 1 = .ok (.iconst 0, 1) := by decide +kernel
theorem dX10_handed_2 : decode cX10_handed 2 = .ok (.putfield 39, 3) := by decide +kernel
theorem dX10_handed_5 : decode cX10_handed 5 = .ok (.aload_n 0, 1) := by decide +kernel
theorem dX10_handed_6 : decode cX10_handed 6 = .ok (.iload_n 1, 1) := by decide +kernel
theorem dX10_handed_7 : decode cX10_handed 7 = .ok (.iload_n 2, 1) := by decide +kernel
theorem dX10_handed_8 : decode cX10_handed 8 = .ok (.invokevirtual 161, 3) := by decide +kernel
theorem dX10_handed_11 : decode cX10_handed 11 = .ok (.ifCond .eq 11, 3) := by decide +kernel
theorem dX10_handed_14 : decode cX10_handed 14 = .ok (.aload_n 0, 1) := by decide +kernel
theorem dX10_handed_15 : decode cX10_handed 15 = .ok (.iload_n 3, 1) := by decide +kernel
theorem dX10_handed_16 : decode cX10_handed 16 = .ok (.invokevirtual 61, 3) := by decide +kernel
theorem dX10_handed_19 : decode cX10_handed 19 = .ok (.ifCond .ne 9, 3) := by decide +kernel
theorem dX10_handed_22 : decode cX10_handed 22 = .ok (.aload_n 0, 1) := by decide +kernel
theorem dX10_handed_23 : decode cX10_handed 23 = .ok (.iconst 1, 1) := by decide +kernel
theorem dX10_handed_24 : decode cX10_handed 24 = .ok (.invokevirtual 105, 3) := by decide +kernel
theorem dX10_handed_27 : decode cX10_handed 27 = .ok (.ireturn, 1) := by decide +kernel
theorem dX10_handed_28 : decode cX10_handed 28 = .ok (.aload_n 0, 1) := by decide +kernel
theorem dX10_handed_29 : decode cX10_handed 29 = .ok (.getfield 7, 3) := by decide +kernel
theorem dX10_handed_32 : decode cX10_handed 32 = .ok (.iload_n 1, 1) := by decide +kernel
theorem dX10_handed_33 : decode cX10_handed 33 = .ok (.iload_n 2, 1) := by decide +kernel
theorem dX10_handed_34 : decode cX10_handed 34 = .ok (.invokestatic 69, 3) := by decide +kernel
theorem dX10_handed_37 : decode cX10_handed 37 = .ok (.iaload, 1) := by decide +kernel
theorem dX10_handed_38 : decode cX10_handed 38 = .ok (.ifCond .ge 6, 3) := by decide +kernel
theorem dX10_handed_41 : decode cX10_handed 41 = .ok (.bipush (-9), 2) := by decide +kernel
theorem dX10_handed_43 : decode cX10_handed 43 = .ok (.ireturn, 1) := by decide +kernel
theorem dX10_handed_44 : decode cX10_handed 44 = .ok (.aload_n 0, 1) := by decide +kernel
theorem dX10_handed_45 : decode cX10_handed 45 = .ok (.getfield 51, 3) := by decide +kernel
theorem dX10_handed_48 : decode cX10_handed 48 = .ok (.lstore 4, 2) := by decide +kernel
theorem dX10_handed_50 : decode cX10_handed 50 = .ok (.aload_n 0, 1) := by decide +kernel
theorem dX10_handed_51 : decode cX10_handed 51 = .ok (.aload_n 0, 1) := by decide +kernel
theorem dX10_handed_52 : decode cX10_handed 52 = .ok (.aload_n 0, 1) := by decide +kernel
theorem dX10_handed_53 : decode cX10_handed 53 = .ok (.getfield 7, 3) := by decide +kernel
theorem dX10_handed_56 : decode cX10_handed 56 = .ok (.iload_n 1, 1) := by decide +kernel
theorem dX10_handed_57 : decode cX10_handed 57 = .ok (.iload_n 2, 1) := by decide +kernel
theorem dX10_handed_58 : decode cX10_handed 58 = .ok (.invokestatic 69, 3) := by decide +kernel
theorem dX10_handed_61 : decode cX10_handed 61 = .ok (.iaload, 1) := by decide +kernel
theorem dX10_handed_62 : decode cX10_handed 62 = .ok (.iconst 0, 1) := by decide +kernel
theorem dX10_handed_63 : decode cX10_handed 63 = .ok (.invokevirtual 65, 3) := by decide +kernel
theorem dX10_handed_66 : decode cX10_handed 66 = .ok (.iload_n 1, 1) := by decide +kernel
theorem dX10_handed_67 : decode cX10_handed 67 = .ok (.iload_n 3, 1) := by decide +kernel
theorem dX10_handed_68 : decode cX10_handed 68 = .ok (.invokevirtual 211, 3) := by decide +kernel
theorem dX10_handed_71 : decode cX10_handed 71 = .ok (.istore 6, 2) := by decide +kernel
theorem dX10_handed_73 : decode cX10_handed 73 = .ok (.aload_n 0, 1) := by decide +kernel
theorem dX10_handed_74 : decode cX10_handed 74 = .ok (.lload 4, 2) := by decide +kernel
theorem dX10_handed_76 : decode cX10_handed 76 = .ok (.putfield 51, 3) := by decide +kernel
theorem dX10_handed_79 : decode cX10_handed 79 = .ok (.iload 6, 2) := by decide +kernel
theorem dX10_handed_81 : decode cX10_handed 81 = .ok (.ireturn, 1) := by decide +kernel
set_option maxRecDepth 20000 in
theorem ggX10_bestTeacher_X10_isHouse : GoodIn wsX10_bestTeacher wsX10_isHouse := goodIn_r _ [7, 2, 8, 9, 6, 10, 50, 51, 52, 53, 54, 55, 56, 57, 58, 59, 60, 61, 62, 63, 64, 65, 66, 67, 68] (by decide +kernel) (by decide +kernel)
set_option maxRecDepth 20000 in
theorem gX10_bestTeacher_X10_isHouse : GoodIn wsX10_bestTeacher (wsV RX10 61 RX10 yX10_isHouse wsX10_isHouse) := goodIn_app (goodIn_of _ (by decide +kernel)) ggX10_bestTeacher_X10_isHouse
set_option maxRecDepth 20000 in
theorem ggX10_bestTeacher_X10_isDevice : GoodIn wsX10_bestTeacher wsX10_isDevice := goodIn_r _ [14, 2, 8, 9, 6, 10, 50, 51, 52, 53, 54, 55, 56, 57, 58, 59, 60, 61, 62, 63, 64, 65, 66, 67, 68] (by decide +kernel) (by decide +kernel)
set_option maxRecDepth 20000 in
theorem gX10_bestTeacher_X10_isDevice : GoodIn wsX10_bestTeacher (wsV RX10 178 RX10 yX10_isDevice wsX10_isDevice) := goodIn_app (goodIn_of _ (by decide +kernel)) ggX10_bestTeacher_X10_isDevice
set_option maxRecDepth 20000 in
theorem ggX10_bestTeacher_X10_fails : GoodIn wsX10_bestTeacher wsX10_fails := goodIn_r _ [18, 1, 50, 51, 52, 53, 54, 55, 56, 57, 58, 59, 60, 61, 62, 63, 64, 65, 66, 67, 68] (by decide +kernel) (by decide +kernel)
set_option maxRecDepth 20000 in
theorem gX10_bestTeacher_X10_fails : GoodIn wsX10_bestTeacher (wsV RX10 105 RX10 yX10_fails wsX10_fails) := goodIn_app (goodIn_of _ (by decide +kernel)) ggX10_bestTeacher_X10_fails
set_option maxRecDepth 20000 in
theorem ggX10_bestTeacher_X10_learned : GoodIn wsX10_bestTeacher wsX10_learned := goodIn_r _ [22, 23, 2, 24, 25, 6, 26, 27, 28, 29, 30, 31, 32, 33, 34, 35, 36, 37, 38, 39, 40, 41, 42, 50, 51, 52, 53, 54, 55, 56, 57, 58, 59, 60, 61, 62, 63, 64, 65, 66, 67, 68] (by decide +kernel) (by decide +kernel)
set_option maxRecDepth 20000 in
theorem gX10_bestTeacher_X10_learned : GoodIn wsX10_bestTeacher (wsV RX10 208 RX10 yX10_learned wsX10_learned) := goodIn_app (goodIn_of _ (by decide +kernel)) ggX10_bestTeacher_X10_learned
set_option maxRecDepth 20000 in
theorem ggX10_bestTeacher_X10_ofDevice : GoodIn wsX10_bestTeacher wsX10_ofDevice := goodIn_r _ [46, 2, 50, 51, 52, 53, 54, 55, 56, 57, 58, 59, 60, 61, 62, 63, 64, 65, 66, 67, 68] (by decide +kernel) (by decide +kernel)
set_option maxRecDepth 20000 in
theorem gX10_bestTeacher_X10_ofDevice : GoodIn wsX10_bestTeacher (wsV RX10 90 RX10 yX10_ofDevice wsX10_ofDevice) := goodIn_app (goodIn_of _ (by decide +kernel)) ggX10_bestTeacher_X10_ofDevice
set_option maxRecDepth 20000 in
theorem ggX10_bestTeacher_X10_apart : GoodIn wsX10_bestTeacher wsX10_apart := goodIn_r _ [49] (by decide +kernel) (by decide +kernel)
set_option maxRecDepth 20000 in
theorem gX10_bestTeacher_X10_apart : GoodIn wsX10_bestTeacher (va_wsS RX10 93 yX10_apart wsX10_apart) := goodIn_app (goodIn_of _ (by decide +kernel)) ggX10_bestTeacher_X10_apart
theorem dX10_bestTeacher_0 : decode cX10_bestTeacher 0 = .ok (.aload_n 0, 1) := by decide +kernel
theorem dX10_bestTeacher_1 : decode cX10_bestTeacher 1 = .ok (.iconst 0, 1) := by decide +kernel
theorem dX10_bestTeacher_2 : decode cX10_bestTeacher 2 = .ok (.putfield 39, 3) := by decide +kernel
theorem dX10_bestTeacher_5 : decode cX10_bestTeacher 5 = .ok (.aload_n 0, 1) := by decide +kernel
theorem dX10_bestTeacher_6 : decode cX10_bestTeacher 6 = .ok (.iload_n 1, 1) := by decide +kernel
theorem dX10_bestTeacher_7 : decode cX10_bestTeacher 7 = .ok (.invokevirtual 61, 3) := by decide +kernel
theorem dX10_bestTeacher_10 : decode cX10_bestTeacher 10 = .ok (.ifCond .eq 11, 3) := by decide +kernel
theorem dX10_bestTeacher_13 : decode cX10_bestTeacher 13 = .ok (.aload_n 0, 1) := by decide +kernel
theorem dX10_bestTeacher_14 : decode cX10_bestTeacher 14 = .ok (.iload_n 2, 1) := by decide +kernel
theorem dX10_bestTeacher_15 : decode cX10_bestTeacher 15 = .ok (.invokevirtual 178, 3) := by decide +kernel
theorem dX10_bestTeacher_18 : decode cX10_bestTeacher 18 = .ok (.ifCond .ne 9, 3) := by decide +kernel
theorem dX10_bestTeacher_21 : decode cX10_bestTeacher 21 = .ok (.aload_n 0, 1) := by decide +kernel
theorem dX10_bestTeacher_22 : decode cX10_bestTeacher 22 = .ok (.iconst 1, 1) := by decide +kernel
theorem dX10_bestTeacher_23 : decode cX10_bestTeacher 23 = .ok (.invokevirtual 105, 3) := by decide +kernel
theorem dX10_bestTeacher_26 : decode cX10_bestTeacher 26 = .ok (.ireturn, 1) := by decide +kernel
theorem dX10_bestTeacher_27 : decode cX10_bestTeacher 27 = .ok (.bipush (-9), 2) := by decide +kernel
theorem dX10_bestTeacher_29 : decode cX10_bestTeacher 29 = .ok (.istore_n 3, 1) := by decide +kernel
theorem dX10_bestTeacher_30 : decode cX10_bestTeacher 30 = .ok (.bipush 13, 2) := by decide +kernel
theorem dX10_bestTeacher_32 : decode cX10_bestTeacher 32 = .ok (.istore 4, 2) := by decide +kernel
theorem dX10_bestTeacher_34 : decode cX10_bestTeacher 34 = .ok (.iconst 0, 1) := by decide +kernel
theorem dX10_bestTeacher_35 : decode cX10_bestTeacher 35 = .ok (.istore 5, 2) := by decide +kernel
theorem dX10_bestTeacher_37 : decode cX10_bestTeacher 37 = .ok (.iload 5, 2) := by decide +kernel
theorem dX10_bestTeacher_39 : decode cX10_bestTeacher 39 = .ok (.bipush 6, 2) := by decide +kernel
theorem dX10_bestTeacher_41 : decode cX10_bestTeacher 41 = .ok (.aload_n 0, 1) := by decide +kernel
theorem dX10_bestTeacher_42 : decode cX10_bestTeacher 42 = .ok (.getfield 7, 3) := by decide +kernel
theorem dX10_bestTeacher_45 : decode cX10_bestTeacher 45 = .ok (.iconst 0, 1) := by decide +kernel
theorem dX10_bestTeacher_46 : decode cX10_bestTeacher 46 = .ok (.iaload, 1) := by decide +kernel
theorem dX10_bestTeacher_47 : decode cX10_bestTeacher 47 = .ok (.imul, 1) := by decide +kernel
theorem dX10_bestTeacher_48 : decode cX10_bestTeacher 48 = .ok (.if_icmp .ge 94, 3) := by decide +kernel
theorem dX10_bestTeacher_51 : decode cX10_bestTeacher 51 = .ok (.aload_n 0, 1) := by decide +kernel
theorem dX10_bestTeacher_52 : decode cX10_bestTeacher 52 = .ok (.getfield 7, 3) := by decide +kernel
theorem dX10_bestTeacher_55 : decode cX10_bestTeacher 55 = .ok (.iconst 5, 1) := by decide +kernel
theorem dX10_bestTeacher_56 : decode cX10_bestTeacher 56 = .ok (.iload 5, 2) := by decide +kernel
theorem dX10_bestTeacher_58 : decode cX10_bestTeacher 58 = .ok (.iadd, 1) := by decide +kernel
theorem dX10_bestTeacher_59 : decode cX10_bestTeacher 59 = .ok (.iaload, 1) := by decide +kernel
theorem dX10_bestTeacher_60 : decode cX10_bestTeacher 60 = .ok (.ifCond .ge 8, 3) := by decide +kernel
theorem dX10_bestTeacher_63 : decode cX10_bestTeacher 63 = .ok (.bipush 13, 2) := by decide +kernel
theorem dX10_bestTeacher_65 : decode cX10_bestTeacher 65 = .ok (.goto 27, 3) := by decide +kernel
theorem dX10_bestTeacher_68 : decode cX10_bestTeacher 68 = .ok (.aload_n 0, 1) := by decide +kernel
theorem dX10_bestTeacher_69 : decode cX10_bestTeacher 69 = .ok (.iload 5, 2) := by decide +kernel
theorem dX10_bestTeacher_71 : decode cX10_bestTeacher 71 = .ok (.bipush 6, 2) := by decide +kernel
theorem dX10_bestTeacher_73 : decode cX10_bestTeacher 73 = .ok (.idiv, 1) := by decide +kernel
theorem dX10_bestTeacher_74 : decode cX10_bestTeacher 74 = .ok (.iload 5, 2) := by decide +kernel
theorem dX10_bestTeacher_76 : decode cX10_bestTeacher 76 = .ok (.bipush 6, 2) := by decide +kernel
theorem dX10_bestTeacher_78 : decode cX10_bestTeacher 78 = .ok (.irem, 1) := by decide +kernel
theorem dX10_bestTeacher_79 : decode cX10_bestTeacher 79 = .ok (.iload_n 1, 1) := by decide +kernel
theorem dX10_bestTeacher_80 : decode cX10_bestTeacher 80 = .ok (.invokevirtual 208, 3) := by decide +kernel
theorem dX10_bestTeacher_83 : decode cX10_bestTeacher 83 = .ok (.aload_n 0, 1) := by decide +kernel
theorem dX10_bestTeacher_84 : decode cX10_bestTeacher 84 = .ok (.iload_n 2, 1) := by decide +kernel
theorem dX10_bestTeacher_85 : decode cX10_bestTeacher 85 = .ok (.iconst 1, 1) := by decide +kernel
theorem dX10_bestTeacher_86 : decode cX10_bestTeacher 86 = .ok (.invokevirtual 90, 3) := by decide +kernel
theorem dX10_bestTeacher_89 : decode cX10_bestTeacher 89 = .ok (.invokestatic 93, 3) := by decide +kernel
theorem dX10_bestTeacher_92 : decode cX10_bestTeacher 92 = .ok (.istore 6, 2) := by decide +kernel
theorem dX10_bestTeacher_94 : decode cX10_bestTeacher 94 = .ok (.iload 6, 2) := by decide +kernel
theorem dX10_bestTeacher_96 : decode cX10_bestTeacher 96 = .ok (.iload 4, 2) := by decide +kernel
theorem dX10_bestTeacher_98 : decode cX10_bestTeacher 98 = .ok (.if_icmp .ge 20, 3) := by decide +kernel
theorem dX10_bestTeacher_101 : decode cX10_bestTeacher 101 = .ok (.bipush 10, 2) := by decide +kernel
theorem dX10_bestTeacher_103 : decode cX10_bestTeacher 103 = .ok (.iload 5, 2) := by decide +kernel
theorem dX10_bestTeacher_105 : decode cX10_bestTeacher 105 = .ok (.bipush 6, 2) := by decide +kernel
theorem dX10_bestTeacher_107 : decode cX10_bestTeacher 107 = .ok (.idiv, 1) := by decide +kernel
theorem dX10_bestTeacher_108 : decode cX10_bestTeacher 108 = .ok (.imul, 1) := by decide +kernel
theorem dX10_bestTeacher_109 : decode cX10_bestTeacher 109 = .ok (.iload 5, 2) := by decide +kernel
theorem dX10_bestTeacher_111 : decode cX10_bestTeacher 111 = .ok (.bipush 6, 2) := by decide +kernel
theorem dX10_bestTeacher_113 : decode cX10_bestTeacher 113 = .ok (.irem, 1) := by decide +kernel
theorem dX10_bestTeacher_114 : decode cX10_bestTeacher 114 = .ok (.iadd, 1) := by decide +kernel
theorem dX10_bestTeacher_115 : decode cX10_bestTeacher 115 = .ok (.goto 4, 3) := by decide +kernel
theorem dX10_bestTeacher_118 : decode cX10_bestTeacher 118 = .ok (.iload_n 3, 1) := by decide +kernel
theorem dX10_bestTeacher_119 : decode cX10_bestTeacher 119 = .ok (.istore_n 3, 1) := by decide +kernel
theorem dX10_bestTeacher_120 : decode cX10_bestTeacher 120 = .ok (.iload 6, 2) := by decide +kernel
theorem dX10_bestTeacher_122 : decode cX10_bestTeacher 122 = .ok (.iload 4, 2) := by decide +kernel
theorem dX10_bestTeacher_124 : decode cX10_bestTeacher 124 = .ok (.if_icmp .ge 8, 3) := by decide +kernel
theorem dX10_bestTeacher_127 : decode cX10_bestTeacher 127 = .ok (.iload 6, 2) := by decide +kernel
theorem dX10_bestTeacher_129 : decode cX10_bestTeacher 129 = .ok (.goto 5, 3) := by decide +kernel
theorem dX10_bestTeacher_132 : decode cX10_bestTeacher 132 = .ok (.iload 4, 2) := by decide +kernel
theorem dX10_bestTeacher_134 : decode cX10_bestTeacher 134 = .ok (.istore 4, 2) := by decide +kernel
theorem dX10_bestTeacher_136 : decode cX10_bestTeacher 136 = .ok (.iinc 5 1, 3) := by decide +kernel
theorem dX10_bestTeacher_139 : decode cX10_bestTeacher 139 = .ok (.goto (-102), 3) := by decide +kernel
theorem dX10_bestTeacher_142 : decode cX10_bestTeacher 142 = .ok (.iload_n 3, 1) := by decide +kernel
theorem dX10_bestTeacher_143 : decode cX10_bestTeacher 143 = .ok (.ireturn, 1) := by decide +kernel
set_option maxRecDepth 20000 in
theorem ggX10_leastTolerance_X10_isDevice : GoodIn wsX10_leastTolerance wsX10_isDevice := goodIn_r _ [7, 2, 8, 9, 6, 10, 30, 31, 32, 33, 34, 35, 36, 37, 38, 39, 40, 41, 42, 43, 44, 45, 46, 47, 48] (by decide +kernel) (by decide +kernel)
set_option maxRecDepth 20000 in
theorem gX10_leastTolerance_X10_isDevice : GoodIn wsX10_leastTolerance (wsV RX10 178 RX10 yX10_isDevice wsX10_isDevice) := goodIn_app (goodIn_of _ (by decide +kernel)) ggX10_leastTolerance_X10_isDevice
set_option maxRecDepth 20000 in
theorem ggX10_leastTolerance_X10_fails : GoodIn wsX10_leastTolerance wsX10_fails := goodIn_r _ [14, 1, 30, 31, 32, 33, 34, 35, 36, 37, 38, 39, 40, 41, 42, 43, 44, 45, 46, 47, 48] (by decide +kernel) (by decide +kernel)
set_option maxRecDepth 20000 in
theorem gX10_leastTolerance_X10_fails : GoodIn wsX10_leastTolerance (wsV RX10 105 RX10 yX10_fails wsX10_fails) := goodIn_app (goodIn_of _ (by decide +kernel)) ggX10_leastTolerance_X10_fails
set_option maxRecDepth 20000 in
theorem ggX10_leastTolerance_X10_rootOf : GoodIn wsX10_leastTolerance wsX10_rootOf := goodIn_r _ [18, 19, 20, 21, 6, 22, 2, 30, 31, 32, 33, 34, 35, 36, 37, 38, 39, 40, 41, 42, 43, 44, 45, 46, 47, 48] (by decide +kernel) (by decide +kernel)
set_option maxRecDepth 20000 in
theorem gX10_leastTolerance_X10_rootOf : GoodIn wsX10_leastTolerance (wsV RX10 151 RX10 yX10_rootOf wsX10_rootOf) := goodIn_app (goodIn_of _ (by decide +kernel)) ggX10_leastTolerance_X10_rootOf
set_option maxRecDepth 20000 in
theorem ggX10_leastTolerance_X10_of : GoodIn wsX10_leastTolerance wsX10_of := goodIn_r _ [22, 2, 30, 31, 32, 33, 34, 35, 36, 37, 38, 39, 40, 41, 42, 43, 44, 45, 46, 47, 48] (by decide +kernel) (by decide +kernel)
set_option maxRecDepth 20000 in
theorem gX10_leastTolerance_X10_of : GoodIn wsX10_leastTolerance (wsV RX10 65 RX10 yX10_of wsX10_of) := goodIn_app (goodIn_of _ (by decide +kernel)) ggX10_leastTolerance_X10_of
set_option maxRecDepth 20000 in
theorem ggX10_leastTolerance_X10_ofDevice : GoodIn wsX10_leastTolerance wsX10_ofDevice := goodIn_r _ [26, 2, 30, 31, 32, 33, 34, 35, 36, 37, 38, 39, 40, 41, 42, 43, 44, 45, 46, 47, 48] (by decide +kernel) (by decide +kernel)
set_option maxRecDepth 20000 in
theorem gX10_leastTolerance_X10_ofDevice : GoodIn wsX10_leastTolerance (wsV RX10 90 RX10 yX10_ofDevice wsX10_ofDevice) := goodIn_app (goodIn_of _ (by decide +kernel)) ggX10_leastTolerance_X10_ofDevice
set_option maxRecDepth 20000 in
theorem ggX10_leastTolerance_X10_apart : GoodIn wsX10_leastTolerance wsX10_apart := goodIn_r _ [29] (by decide +kernel) (by decide +kernel)
set_option maxRecDepth 20000 in
theorem gX10_leastTolerance_X10_apart : GoodIn wsX10_leastTolerance (va_wsS RX10 93 yX10_apart wsX10_apart) := goodIn_app (goodIn_of _ (by decide +kernel)) ggX10_leastTolerance_X10_apart
theorem dX10_leastTolerance_0 : decode cX10_leastTolerance 0 = .ok (.aload_n 0, 1) := by decide +kernel
theorem dX10_leastTolerance_1 : decode cX10_leastTolerance 1 = .ok (.iconst 0, 1) := by decide +kernel
theorem dX10_leastTolerance_2 : decode cX10_leastTolerance 2 = .ok (.putfield 39, 3) := by decide +kernel
theorem dX10_leastTolerance_5 : decode cX10_leastTolerance 5 = .ok (.aload_n 0, 1) := by decide +kernel
theorem dX10_leastTolerance_6 : decode cX10_leastTolerance 6 = .ok (.iload_n 1, 1) := by decide +kernel
theorem dX10_leastTolerance_7 : decode cX10_leastTolerance 7 = .ok (.invokevirtual 178, 3) := by decide +kernel
theorem dX10_leastTolerance_10 : decode cX10_leastTolerance 10 = .ok (.ifCond .ne 9, 3) := by decide +kernel
theorem dX10_leastTolerance_13 : decode cX10_leastTolerance 13 = .ok (.aload_n 0, 1) := by decide +kernel
theorem dX10_leastTolerance_14 : decode cX10_leastTolerance 14 = .ok (.iconst 1, 1) := by decide +kernel
theorem dX10_leastTolerance_15 : decode cX10_leastTolerance 15 = .ok (.invokevirtual 105, 3) := by decide +kernel
theorem dX10_leastTolerance_18 : decode cX10_leastTolerance 18 = .ok (.ireturn, 1) := by decide +kernel
theorem dX10_leastTolerance_19 : decode cX10_leastTolerance 19 = .ok (.iconst 0, 1) := by decide +kernel
theorem dX10_leastTolerance_20 : decode cX10_leastTolerance 20 = .ok (.istore_n 2, 1) := by decide +kernel
theorem dX10_leastTolerance_21 : decode cX10_leastTolerance 21 = .ok (.iconst 0, 1) := by decide +kernel
theorem dX10_leastTolerance_22 : decode cX10_leastTolerance 22 = .ok (.istore_n 3, 1) := by decide +kernel
theorem dX10_leastTolerance_23 : decode cX10_leastTolerance 23 = .ok (.iload_n 3, 1) := by decide +kernel
theorem dX10_leastTolerance_24 : decode cX10_leastTolerance 24 = .ok (.bipush 6, 2) := by decide +kernel
theorem dX10_leastTolerance_26 : decode cX10_leastTolerance 26 = .ok (.aload_n 0, 1) := by decide +kernel
theorem dX10_leastTolerance_27 : decode cX10_leastTolerance 27 = .ok (.getfield 7, 3) := by decide +kernel
theorem dX10_leastTolerance_30 : decode cX10_leastTolerance 30 = .ok (.iconst 0, 1) := by decide +kernel
theorem dX10_leastTolerance_31 : decode cX10_leastTolerance 31 = .ok (.iaload, 1) := by decide +kernel
theorem dX10_leastTolerance_32 : decode cX10_leastTolerance 32 = .ok (.imul, 1) := by decide +kernel
theorem dX10_leastTolerance_33 : decode cX10_leastTolerance 33 = .ok (.if_icmp .ge 79, 3) := by decide +kernel
theorem dX10_leastTolerance_36 : decode cX10_leastTolerance 36 = .ok (.aload_n 0, 1) := by decide +kernel
theorem dX10_leastTolerance_37 : decode cX10_leastTolerance 37 = .ok (.getfield 7, 3) := by decide +kernel
theorem dX10_leastTolerance_40 : decode cX10_leastTolerance 40 = .ok (.iconst 5, 1) := by decide +kernel
theorem dX10_leastTolerance_41 : decode cX10_leastTolerance 41 = .ok (.iload_n 3, 1) := by decide +kernel
theorem dX10_leastTolerance_42 : decode cX10_leastTolerance 42 = .ok (.iadd, 1) := by decide +kernel
theorem dX10_leastTolerance_43 : decode cX10_leastTolerance 43 = .ok (.iaload, 1) := by decide +kernel
theorem dX10_leastTolerance_44 : decode cX10_leastTolerance 44 = .ok (.istore 4, 2) := by decide +kernel
theorem dX10_leastTolerance_46 : decode cX10_leastTolerance 46 = .ok (.iload 4, 2) := by decide +kernel
theorem dX10_leastTolerance_48 : decode cX10_leastTolerance 48 = .ok (.ifCond .lt 42, 3) := by decide +kernel
theorem dX10_leastTolerance_51 : decode cX10_leastTolerance 51 = .ok (.aload_n 0, 1) := by decide +kernel
theorem dX10_leastTolerance_52 : decode cX10_leastTolerance 52 = .ok (.aload_n 0, 1) := by decide +kernel
theorem dX10_leastTolerance_53 : decode cX10_leastTolerance 53 = .ok (.iload 4, 2) := by decide +kernel
theorem dX10_leastTolerance_55 : decode cX10_leastTolerance 55 = .ok (.invokevirtual 151, 3) := by decide +kernel
theorem dX10_leastTolerance_58 : decode cX10_leastTolerance 58 = .ok (.iconst 0, 1) := by decide +kernel
theorem dX10_leastTolerance_59 : decode cX10_leastTolerance 59 = .ok (.invokevirtual 65, 3) := by decide +kernel
theorem dX10_leastTolerance_62 : decode cX10_leastTolerance 62 = .ok (.aload_n 0, 1) := by decide +kernel
theorem dX10_leastTolerance_63 : decode cX10_leastTolerance 63 = .ok (.iload_n 1, 1) := by decide +kernel
theorem dX10_leastTolerance_64 : decode cX10_leastTolerance 64 = .ok (.iconst 1, 1) := by decide +kernel
theorem dX10_leastTolerance_65 : decode cX10_leastTolerance 65 = .ok (.invokevirtual 90, 3) := by decide +kernel
theorem dX10_leastTolerance_68 : decode cX10_leastTolerance 68 = .ok (.if_icmp .ne 22, 3) := by decide +kernel
theorem dX10_leastTolerance_71 : decode cX10_leastTolerance 71 = .ok (.aload_n 0, 1) := by decide +kernel
theorem dX10_leastTolerance_72 : decode cX10_leastTolerance 72 = .ok (.iload 4, 2) := by decide +kernel
theorem dX10_leastTolerance_74 : decode cX10_leastTolerance 74 = .ok (.iconst 0, 1) := by decide +kernel
theorem dX10_leastTolerance_75 : decode cX10_leastTolerance 75 = .ok (.invokevirtual 65, 3) := by decide +kernel
theorem dX10_leastTolerance_78 : decode cX10_leastTolerance 78 = .ok (.aload_n 0, 1) := by decide +kernel
theorem dX10_leastTolerance_79 : decode cX10_leastTolerance 79 = .ok (.iload_n 1, 1) := by decide +kernel
theorem dX10_leastTolerance_80 : decode cX10_leastTolerance 80 = .ok (.iconst 1, 1) := by decide +kernel
theorem dX10_leastTolerance_81 : decode cX10_leastTolerance 81 = .ok (.invokevirtual 90, 3) := by decide +kernel
theorem dX10_leastTolerance_84 : decode cX10_leastTolerance 84 = .ok (.invokestatic 93, 3) := by decide +kernel
theorem dX10_leastTolerance_87 : decode cX10_leastTolerance 87 = .ok (.goto 4, 3) := by decide +kernel
theorem dX10_leastTolerance_90 : decode cX10_leastTolerance 90 = .ok (.iconst 0, 1) := by decide +kernel
theorem dX10_leastTolerance_91 : decode cX10_leastTolerance 91 = .ok (.istore 5, 2) := by decide +kernel
theorem dX10_leastTolerance_93 : decode cX10_leastTolerance 93 = .ok (.iload 5, 2) := by decide +kernel
theorem dX10_leastTolerance_95 : decode cX10_leastTolerance 95 = .ok (.iload_n 2, 1) := by decide +kernel
theorem dX10_leastTolerance_96 : decode cX10_leastTolerance 96 = .ok (.if_icmp .le 8, 3) := by decide +kernel
theorem dX10_leastTolerance_99 : decode cX10_leastTolerance 99 = .ok (.iload 5, 2) := by decide +kernel
theorem dX10_leastTolerance_101 : decode cX10_leastTolerance 101 = .ok (.goto 4, 3) := by decide +kernel
theorem dX10_leastTolerance_104 : decode cX10_leastTolerance 104 = .ok (.iload_n 2, 1) := by decide +kernel
theorem dX10_leastTolerance_105 : decode cX10_leastTolerance 105 = .ok (.istore_n 2, 1) := by decide +kernel
theorem dX10_leastTolerance_106 : decode cX10_leastTolerance 106 = .ok (.iinc 3 1, 3) := by decide +kernel
theorem dX10_leastTolerance_109 : decode cX10_leastTolerance 109 = .ok (.goto (-86), 3) := by decide +kernel
theorem dX10_leastTolerance_112 : decode cX10_leastTolerance 112 = .ok (.iload_n 2, 1) := by decide +kernel
theorem dX10_leastTolerance_113 : decode cX10_leastTolerance 113 = .ok (.iconst 3, 1) := by decide +kernel
theorem dX10_leastTolerance_114 : decode cX10_leastTolerance 114 = .ok (.if_icmp .le 8, 3) := by decide +kernel
theorem dX10_leastTolerance_117 : decode cX10_leastTolerance 117 = .ok (.bipush (-9), 2) := by decide +kernel
theorem dX10_leastTolerance_119 : decode cX10_leastTolerance 119 = .ok (.goto 4, 3) := by decide +kernel
theorem dX10_leastTolerance_122 : decode cX10_leastTolerance 122 = .ok (.iload_n 2, 1) := by decide +kernel
theorem dX10_leastTolerance_123 : decode cX10_leastTolerance 123 = .ok (.ireturn, 1) := by decide +kernel
set_option maxRecDepth 20000 in
theorem ggX10_acts_X10_isKey : GoodIn wsX10_acts wsX10_isKey := goodIn_r _ [6, 7, 8, 9, 10, 5, 11, 1, 12, 13, 14, 75, 76, 77, 78, 79, 80, 81, 82, 83, 84, 85, 86, 87, 88, 89, 90, 91, 92, 93] (by decide +kernel) (by decide +kernel)
set_option maxRecDepth 20000 in
theorem gX10_acts_X10_isKey : GoodIn wsX10_acts (wsV RX10 161 RX10 yX10_isKey wsX10_isKey) := goodIn_app (goodIn_of _ (by decide +kernel)) ggX10_acts_X10_isKey
set_option maxRecDepth 20000 in
theorem ggX10_acts_X10_canTeach : GoodIn wsX10_acts wsX10_canTeach := goodIn_r _ [18, 1, 19, 20, 5, 21, 75, 76, 77, 78, 79, 80, 81, 82, 83, 84, 85, 86, 87, 88, 89, 90, 91, 92, 93] (by decide +kernel) (by decide +kernel)
set_option maxRecDepth 20000 in
theorem gX10_acts_X10_canTeach : GoodIn wsX10_acts (wsV RX10 188 RX10 yX10_canTeach wsX10_canTeach) := goodIn_app (goodIn_of _ (by decide +kernel)) ggX10_acts_X10_canTeach
set_option maxRecDepth 20000 in
theorem ggX10_acts_X10_teaches : GoodIn wsX10_acts wsX10_teaches := goodIn_r _ [25, 1, 19, 20, 5, 21, 26, 27, 28, 29, 30, 31, 32, 33, 34, 35, 36, 37, 38, 39, 40, 41, 42, 43, 44, 45, 46, 75, 76, 77, 78, 79, 80, 81, 82, 83, 84, 85, 86, 87, 88, 89, 90, 91, 92, 93] (by decide +kernel) (by decide +kernel)
set_option maxRecDepth 20000 in
theorem gX10_acts_X10_teaches : GoodIn wsX10_acts (wsV RX10 191 RX10 yX10_teaches wsX10_teaches) := goodIn_app (goodIn_of _ (by decide +kernel)) ggX10_acts_X10_teaches
set_option maxRecDepth 20000 in
theorem ggX10_acts_X10_keyAt : GoodIn wsX10_acts wsX10_keyAt := goodIn_r _ [21] (by decide +kernel) (by decide +kernel)
set_option maxRecDepth 20000 in
theorem gX10_acts_X10_keyAt : GoodIn wsX10_acts (va_wsS RX10 69 yX10_keyAt wsX10_keyAt) := goodIn_app (goodIn_of _ (by decide +kernel)) ggX10_acts_X10_keyAt
set_option maxRecDepth 20000 in
theorem ggX10_acts_X10_presses : GoodIn wsX10_acts wsX10_presses := goodIn_r _ [50, 1, 51, 52, 53, 5, 54, 19, 20, 21, 36, 37, 38, 39, 55, 56, 57, 58, 59, 60, 61, 62, 26, 27, 28, 63, 64, 65, 75, 76, 77, 78, 79, 80, 81, 82, 83, 84, 85, 86, 87, 88, 89, 90, 91, 92, 93] (by decide +kernel) (by decide +kernel)
set_option maxRecDepth 20000 in
theorem gX10_acts_X10_presses : GoodIn wsX10_acts (wsV RX10 195 RX10 yX10_presses wsX10_presses) := goodIn_app (goodIn_of _ (by decide +kernel)) ggX10_acts_X10_presses
set_option maxRecDepth 20000 in
theorem ggX10_acts_X10_isSetting : GoodIn wsX10_acts wsX10_isSetting := goodIn_r _ [68, 69, 70, 12, 13, 5, 14] (by decide +kernel) (by decide +kernel)
set_option maxRecDepth 20000 in
theorem gX10_acts_X10_isSetting : GoodIn wsX10_acts (va_wsS RX10 205 yX10_isSetting wsX10_isSetting) := goodIn_app (goodIn_of _ (by decide +kernel)) ggX10_acts_X10_isSetting
set_option maxRecDepth 20000 in
theorem ggX10_acts_X10_isDevice : GoodIn wsX10_acts wsX10_isDevice := goodIn_r _ [74, 1, 12, 13, 5, 14, 75, 76, 77, 78, 79, 80, 81, 82, 83, 84, 85, 86, 87, 88, 89, 90, 91, 92, 93] (by decide +kernel) (by decide +kernel)
set_option maxRecDepth 20000 in
theorem gX10_acts_X10_isDevice : GoodIn wsX10_acts (wsV RX10 178 RX10 yX10_isDevice wsX10_isDevice) := goodIn_app (goodIn_of _ (by decide +kernel)) ggX10_acts_X10_isDevice
theorem dX10_acts_0 : decode cX10_acts 0 = .ok (.iload_n 1, 1) := by decide +kernel
theorem dX10_acts_1 : decode cX10_acts 1 = .ok (.tableswitch 189 1 4 #[31, 87, 128, 160], 31) := by decide +kernel
theorem dX10_acts_32 : decode cX10_acts 32 = .ok (.aload_n 0, 1) := by decide +kernel
theorem dX10_acts_33 : decode cX10_acts 33 = .ok (.iload_n 2, 1) := by decide +kernel
theorem dX10_acts_34 : decode cX10_acts 34 = .ok (.iload_n 3, 1) := by decide +kernel
theorem dX10_acts_35 : decode cX10_acts 35 = .ok (.invokevirtual 161, 3) := by decide +kernel
theorem dX10_acts_38 : decode cX10_acts 38 = .ok (.ifCond .eq 35, 3) := by decide +kernel
theorem dX10_acts_41 : decode cX10_acts 41 = .ok (.aload_n 0, 1) := by decide +kernel
theorem dX10_acts_42 : decode cX10_acts 42 = .ok (.iload 4, 2) := by decide +kernel
theorem dX10_acts_44 : decode cX10_acts 44 = .ok (.iload 5, 2) := by decide +kernel
theorem dX10_acts_46 : decode cX10_acts 46 = .ok (.invokevirtual 161, 3) := by decide +kernel
theorem dX10_acts_49 : decode cX10_acts 49 = .ok (.ifCond .eq 24, 3) := by decide +kernel
theorem dX10_acts_52 : decode cX10_acts 52 = .ok (.iload_n 2, 1) := by decide +kernel
theorem dX10_acts_53 : decode cX10_acts 53 = .ok (.iload 4, 2) := by decide +kernel
theorem dX10_acts_55 : decode cX10_acts 55 = .ok (.if_icmp .ne 9, 3) := by decide +kernel
theorem dX10_acts_58 : decode cX10_acts 58 = .ok (.iload_n 3, 1) := by decide +kernel
theorem dX10_acts_59 : decode cX10_acts 59 = .ok (.iload 5, 2) := by decide +kernel
theorem dX10_acts_61 : decode cX10_acts 61 = .ok (.if_icmp .eq 12, 3) := by decide +kernel
theorem dX10_acts_64 : decode cX10_acts 64 = .ok (.aload_n 0, 1) := by decide +kernel
theorem dX10_acts_65 : decode cX10_acts 65 = .ok (.iload_n 2, 1) := by decide +kernel
theorem dX10_acts_66 : decode cX10_acts 66 = .ok (.iload_n 3, 1) := by decide +kernel
theorem dX10_acts_67 : decode cX10_acts 67 = .ok (.invokevirtual 188, 3) := by decide +kernel
theorem dX10_acts_70 : decode cX10_acts 70 = .ok (.ifCond .ne 5, 3) := by decide +kernel
theorem dX10_acts_73 : decode cX10_acts 73 = .ok (.iconst 0, 1) := by decide +kernel
theorem dX10_acts_74 : decode cX10_acts 74 = .ok (.ireturn, 1) := by decide +kernel
theorem dX10_acts_75 : decode cX10_acts 75 = .ok (.aload_n 0, 1) := by decide +kernel
theorem dX10_acts_76 : decode cX10_acts 76 = .ok (.iload_n 2, 1) := by decide +kernel
theorem dX10_acts_77 : decode cX10_acts 77 = .ok (.iload_n 3, 1) := by decide +kernel
theorem dX10_acts_78 : decode cX10_acts 78 = .ok (.iload 4, 2) := by decide +kernel
theorem dX10_acts_80 : decode cX10_acts 80 = .ok (.iload 5, 2) := by decide +kernel
theorem dX10_acts_82 : decode cX10_acts 82 = .ok (.invokevirtual 191, 3) := by decide +kernel
theorem dX10_acts_85 : decode cX10_acts 85 = .ok (.pop, 1) := by decide +kernel
theorem dX10_acts_86 : decode cX10_acts 86 = .ok (.iconst 1, 1) := by decide +kernel
theorem dX10_acts_87 : decode cX10_acts 87 = .ok (.ireturn, 1) := by decide +kernel
theorem dX10_acts_88 : decode cX10_acts 88 = .ok (.aload_n 0, 1) := by decide +kernel
theorem dX10_acts_89 : decode cX10_acts 89 = .ok (.iload_n 2, 1) := by decide +kernel
theorem dX10_acts_90 : decode cX10_acts 90 = .ok (.iload_n 3, 1) := by decide +kernel
theorem dX10_acts_91 : decode cX10_acts 91 = .ok (.invokevirtual 161, 3) := by decide +kernel
theorem dX10_acts_94 : decode cX10_acts 94 = .ok (.ifCond .eq 24, 3) := by decide +kernel
theorem dX10_acts_97 : decode cX10_acts 97 = .ok (.aload_n 0, 1) := by decide +kernel
theorem dX10_acts_98 : decode cX10_acts 98 = .ok (.getfield 7, 3) := by decide +kernel
theorem dX10_acts_101 : decode cX10_acts 101 = .ok (.iload_n 2, 1) := by decide +kernel
theorem dX10_acts_102 : decode cX10_acts 102 = .ok (.iload_n 3, 1) := by decide +kernel
theorem dX10_acts_103 : decode cX10_acts 103 = .ok (.invokestatic 69, 3) := by decide +kernel
theorem dX10_acts_106 : decode cX10_acts 106 = .ok (.iaload, 1) := by decide +kernel
theorem dX10_acts_107 : decode cX10_acts 107 = .ok (.ifCond .lt 11, 3) := by decide +kernel
theorem dX10_acts_110 : decode cX10_acts 110 = .ok (.iload 4, 2) := by decide +kernel
theorem dX10_acts_112 : decode cX10_acts 112 = .ok (.iload 5, 2) := by decide +kernel
theorem dX10_acts_114 : decode cX10_acts 114 = .ok (.iadd, 1) := by decide +kernel
theorem dX10_acts_115 : decode cX10_acts 115 = .ok (.ifCond .le 5, 3) := by decide +kernel
theorem dX10_acts_118 : decode cX10_acts 118 = .ok (.iconst 0, 1) := by decide +kernel
theorem dX10_acts_119 : decode cX10_acts 119 = .ok (.ireturn, 1) := by decide +kernel
theorem dX10_acts_120 : decode cX10_acts 120 = .ok (.aload_n 0, 1) := by decide +kernel
theorem dX10_acts_121 : decode cX10_acts 121 = .ok (.iload_n 2, 1) := by decide +kernel
theorem dX10_acts_122 : decode cX10_acts 122 = .ok (.iload_n 3, 1) := by decide +kernel
theorem dX10_acts_123 : decode cX10_acts 123 = .ok (.invokevirtual 195, 3) := by decide +kernel
theorem dX10_acts_126 : decode cX10_acts 126 = .ok (.pop, 1) := by decide +kernel
theorem dX10_acts_127 : decode cX10_acts 127 = .ok (.iconst 1, 1) := by decide +kernel
theorem dX10_acts_128 : decode cX10_acts 128 = .ok (.ireturn, 1) := by decide +kernel
theorem dX10_acts_129 : decode cX10_acts 129 = .ok (.aload_n 0, 1) := by decide +kernel
theorem dX10_acts_130 : decode cX10_acts 130 = .ok (.iload_n 2, 1) := by decide +kernel
theorem dX10_acts_131 : decode cX10_acts 131 = .ok (.iload_n 3, 1) := by decide +kernel
theorem dX10_acts_132 : decode cX10_acts 132 = .ok (.invokevirtual 161, 3) := by decide +kernel
theorem dX10_acts_135 : decode cX10_acts 135 = .ok (.ifCond .eq 11, 3) := by decide +kernel
theorem dX10_acts_138 : decode cX10_acts 138 = .ok (.iload 4, 2) := by decide +kernel
theorem dX10_acts_140 : decode cX10_acts 140 = .ok (.iload 5, 2) := by decide +kernel
theorem dX10_acts_142 : decode cX10_acts 142 = .ok (.iadd, 1) := by decide +kernel
theorem dX10_acts_143 : decode cX10_acts 143 = .ok (.ifCond .le 5, 3) := by decide +kernel
theorem dX10_acts_146 : decode cX10_acts 146 = .ok (.iconst 0, 1) := by decide +kernel
theorem dX10_acts_147 : decode cX10_acts 147 = .ok (.ireturn, 1) := by decide +kernel
theorem dX10_acts_148 : decode cX10_acts 148 = .ok (.aload_n 0, 1) := by decide +kernel
theorem dX10_acts_149 : decode cX10_acts 149 = .ok (.getfield 7, 3) := by decide +kernel
theorem dX10_acts_152 : decode cX10_acts 152 = .ok (.iload_n 2, 1) := by decide +kernel
theorem dX10_acts_153 : decode cX10_acts 153 = .ok (.iload_n 3, 1) := by decide +kernel
theorem dX10_acts_154 : decode cX10_acts 154 = .ok (.invokestatic 69, 3) := by decide +kernel
theorem dX10_acts_157 : decode cX10_acts 157 = .ok (.iconst (-1), 1) := by decide +kernel
theorem dX10_acts_158 : decode cX10_acts 158 = .ok (.iastore, 1) := by decide +kernel
theorem dX10_acts_159 : decode cX10_acts 159 = .ok (.iconst 1, 1) := by decide +kernel
theorem dX10_acts_160 : decode cX10_acts 160 = .ok (.ireturn, 1) := by decide +kernel
theorem dX10_acts_161 : decode cX10_acts 161 = .ok (.iload_n 2, 1) := by decide +kernel
theorem dX10_acts_162 : decode cX10_acts 162 = .ok (.iload_n 3, 1) := by decide +kernel
theorem dX10_acts_163 : decode cX10_acts 163 = .ok (.invokestatic 205, 3) := by decide +kernel
theorem dX10_acts_166 : decode cX10_acts 166 = .ok (.ifCond .eq 11, 3) := by decide +kernel
theorem dX10_acts_169 : decode cX10_acts 169 = .ok (.iload 4, 2) := by decide +kernel
theorem dX10_acts_171 : decode cX10_acts 171 = .ok (.iload 5, 2) := by decide +kernel
theorem dX10_acts_173 : decode cX10_acts 173 = .ok (.iadd, 1) := by decide +kernel
theorem dX10_acts_174 : decode cX10_acts 174 = .ok (.ifCond .le 5, 3) := by decide +kernel
theorem dX10_acts_177 : decode cX10_acts 177 = .ok (.iconst 0, 1) := by decide +kernel
theorem dX10_acts_178 : decode cX10_acts 178 = .ok (.ireturn, 1) := by decide +kernel
theorem dX10_acts_179 : decode cX10_acts 179 = .ok (.aload_n 0, 1) := by decide +kernel
theorem dX10_acts_180 : decode cX10_acts 180 = .ok (.getfield 7, 3) := by decide +kernel
theorem dX10_acts_183 : decode cX10_acts 183 = .ok (.iconst 3, 1) := by decide +kernel
theorem dX10_acts_184 : decode cX10_acts 184 = .ok (.iload_n 2, 1) := by decide +kernel
theorem dX10_acts_185 : decode cX10_acts 185 = .ok (.iadd, 1) := by decide +kernel
theorem dX10_acts_186 : decode cX10_acts 186 = .ok (.iload_n 3, 1) := by decide +kernel
theorem dX10_acts_187 : decode cX10_acts 187 = .ok (.iastore, 1) := by decide +kernel
theorem dX10_acts_188 : decode cX10_acts 188 = .ok (.iconst 1, 1) := by decide +kernel
theorem dX10_acts_189 : decode cX10_acts 189 = .ok (.ireturn, 1) := by decide +kernel
theorem dX10_acts_190 : decode cX10_acts 190 = .ok (.aload_n 0, 1) := by decide +kernel
theorem dX10_acts_191 : decode cX10_acts 191 = .ok (.iload_n 2, 1) := by decide +kernel
theorem dX10_acts_192 : decode cX10_acts 192 = .ok (.invokevirtual 178, 3) := by decide +kernel
theorem dX10_acts_195 : decode cX10_acts 195 = .ok (.ifCond .eq 16, 3) := by decide +kernel
theorem dX10_acts_198 : decode cX10_acts 198 = .ok (.iload_n 3, 1) := by decide +kernel
theorem dX10_acts_199 : decode cX10_acts 199 = .ok (.iconst 3, 1) := by decide +kernel
theorem dX10_acts_200 : decode cX10_acts 200 = .ok (.if_icmp .gt 11, 3) := by decide +kernel
theorem dX10_acts_203 : decode cX10_acts 203 = .ok (.iload 4, 2) := by decide +kernel
theorem dX10_acts_205 : decode cX10_acts 205 = .ok (.iload 5, 2) := by decide +kernel
theorem dX10_acts_207 : decode cX10_acts 207 = .ok (.iadd, 1) := by decide +kernel
theorem dX10_acts_208 : decode cX10_acts 208 = .ok (.ifCond .le 5, 3) := by decide +kernel
theorem dX10_acts_211 : decode cX10_acts 211 = .ok (.iconst 0, 1) := by decide +kernel
theorem dX10_acts_212 : decode cX10_acts 212 = .ok (.ireturn, 1) := by decide +kernel
theorem dX10_acts_213 : decode cX10_acts 213 = .ok (.aload_n 0, 1) := by decide +kernel
theorem dX10_acts_214 : decode cX10_acts 214 = .ok (.getfield 7, 3) := by decide +kernel
theorem dX10_acts_217 : decode cX10_acts 217 = .ok (.sipush 259, 3) := by decide +kernel
theorem dX10_acts_220 : decode cX10_acts 220 = .ok (.iconst 4, 1) := by decide +kernel
theorem dX10_acts_221 : decode cX10_acts 221 = .ok (.iload_n 2, 1) := by decide +kernel
theorem dX10_acts_222 : decode cX10_acts 222 = .ok (.imul, 1) := by decide +kernel
theorem dX10_acts_223 : decode cX10_acts 223 = .ok (.iadd, 1) := by decide +kernel
theorem dX10_acts_224 : decode cX10_acts 224 = .ok (.iconst 2, 1) := by decide +kernel
theorem dX10_acts_225 : decode cX10_acts 225 = .ok (.iadd, 1) := by decide +kernel
theorem dX10_acts_226 : decode cX10_acts 226 = .ok (.iload_n 3, 1) := by decide +kernel
theorem dX10_acts_227 : decode cX10_acts 227 = .ok (.iastore, 1) := by decide +kernel
theorem dX10_acts_228 : decode cX10_acts 228 = .ok (.iconst 1, 1) := by decide +kernel
theorem dX10_acts_229 : decode cX10_acts 229 = .ok (.ireturn, 1) := by decide +kernel
set_option maxRecDepth 20000 in
theorem ggX10_succeeds_X10_in : GoodIn wsX10_succeeds wsX10_in := goodIn_r _ [6] (by decide +kernel) (by decide +kernel)
set_option maxRecDepth 20000 in
theorem gX10_succeeds_X10_in : GoodIn wsX10_succeeds (va_wsS RX10 47 yX10_in wsX10_in) := goodIn_app (goodIn_of _ (by decide +kernel)) ggX10_succeeds_X10_in
set_option maxRecDepth 20000 in
theorem ggX10_succeeds_X10_acts : GoodIn wsX10_succeeds wsX10_acts := goodIn_r _ [10, 2, 11, 12, 13, 5, 14, 1, 15, 16, 17, 18, 3, 4, 6, 19, 20, 21, 22, 23, 24, 25, 26, 27, 28, 29, 30, 31, 32, 33, 34, 35, 36, 37, 38, 39, 40, 41, 42, 43, 44, 45, 46, 47, 48, 49, 50, 51, 52, 53, 54, 55, 56, 57, 58, 59, 60, 61, 62, 63, 64, 65, 66, 67, 68, 69, 70, 71, 72, 73, 74, 75, 76, 77, 78, 87, 88, 89, 90, 91, 92, 93, 94, 95, 96, 97, 98, 99, 100, 101, 102, 103, 104, 105] (by decide +kernel) (by decide +kernel)
set_option maxRecDepth 20000 in
theorem gX10_succeeds_X10_acts : GoodIn wsX10_succeeds (wsV RX10 214 RX10 yX10_acts wsX10_acts) := goodIn_app (goodIn_of _ (by decide +kernel)) ggX10_succeeds_X10_acts
set_option maxRecDepth 20000 in
theorem ggX10_succeeds_X10_isDevice : GoodIn wsX10_succeeds wsX10_isDevice := goodIn_r _ [78, 2, 3, 4, 5, 6, 87, 88, 89, 90, 91, 92, 93, 94, 95, 96, 97, 98, 99, 100, 101, 102, 103, 104, 105] (by decide +kernel) (by decide +kernel)
set_option maxRecDepth 20000 in
theorem gX10_succeeds_X10_isDevice : GoodIn wsX10_succeeds (wsV RX10 178 RX10 yX10_isDevice wsX10_isDevice) := goodIn_app (goodIn_of _ (by decide +kernel)) ggX10_succeeds_X10_isDevice
set_option maxRecDepth 20000 in
theorem ggX10_succeeds_X10_ofDevice : GoodIn wsX10_succeeds wsX10_ofDevice := goodIn_r _ [66, 2, 87, 88, 89, 90, 91, 92, 93, 94, 95, 96, 97, 98, 99, 100, 101, 102, 103, 104, 105] (by decide +kernel) (by decide +kernel)
set_option maxRecDepth 20000 in
theorem gX10_succeeds_X10_ofDevice : GoodIn wsX10_succeeds (wsV RX10 90 RX10 yX10_ofDevice wsX10_ofDevice) := goodIn_app (goodIn_of _ (by decide +kernel)) ggX10_succeeds_X10_ofDevice
set_option maxRecDepth 20000 in
theorem ggX10_succeeds_X10_isKey : GoodIn wsX10_succeeds wsX10_isKey := goodIn_r _ [14, 1, 15, 16, 17, 5, 18, 2, 3, 4, 6, 87, 88, 89, 90, 91, 92, 93, 94, 95, 96, 97, 98, 99, 100, 101, 102, 103, 104, 105] (by decide +kernel) (by decide +kernel)
set_option maxRecDepth 20000 in
theorem gX10_succeeds_X10_isKey : GoodIn wsX10_succeeds (wsV RX10 161 RX10 yX10_isKey wsX10_isKey) := goodIn_app (goodIn_of _ (by decide +kernel)) ggX10_succeeds_X10_isKey
set_option maxRecDepth 20000 in
theorem ggX10_succeeds_X10_keyAt : GoodIn wsX10_succeeds wsX10_keyAt := goodIn_r _ [25] (by decide +kernel) (by decide +kernel)
set_option maxRecDepth 20000 in
theorem gX10_succeeds_X10_keyAt : GoodIn wsX10_succeeds (va_wsS RX10 69 yX10_keyAt wsX10_keyAt) := goodIn_app (goodIn_of _ (by decide +kernel)) ggX10_succeeds_X10_keyAt
set_option maxRecDepth 20000 in
theorem ggX10_succeeds_X10_acceptedBy : GoodIn wsX10_succeeds wsX10_acceptedBy := goodIn_r _ [58, 2, 23, 24, 5, 25, 40, 41, 42, 43, 59, 60, 61, 62, 63, 64, 65, 66, 30, 31, 32, 67, 68, 69, 87, 88, 89, 90, 91, 92, 93, 94, 95, 96, 97, 98, 99, 100, 101, 102, 103, 104, 105] (by decide +kernel) (by decide +kernel)
set_option maxRecDepth 20000 in
theorem gX10_succeeds_X10_acceptedBy : GoodIn wsX10_succeeds (wsV RX10 100 RX10 yX10_acceptedBy wsX10_acceptedBy) := goodIn_app (goodIn_of _ (by decide +kernel)) ggX10_succeeds_X10_acceptedBy
set_option maxRecDepth 20000 in
theorem ggX10_succeeds_X10_generation : GoodIn wsX10_succeeds wsX10_generation := goodIn_r _ [82, 40, 41, 42, 5, 43, 2, 87, 88, 89, 90, 91, 92, 93, 94, 95, 96, 97, 98, 99, 100, 101, 102, 103, 104, 105] (by decide +kernel) (by decide +kernel)
set_option maxRecDepth 20000 in
theorem gX10_succeeds_X10_generation : GoodIn wsX10_succeeds (wsV RX10 154 RX10 yX10_generation wsX10_generation) := goodIn_app (goodIn_of _ (by decide +kernel)) ggX10_succeeds_X10_generation
set_option maxRecDepth 20000 in
theorem ggX10_succeeds_X10_wrongBits : GoodIn wsX10_succeeds wsX10_wrongBits := goodIn_r _ [86, 40, 41, 42, 5, 43, 2, 87, 88, 89, 90, 91, 92, 93, 94, 95, 96, 97, 98, 99, 100, 101, 102, 103, 104, 105] (by decide +kernel) (by decide +kernel)
set_option maxRecDepth 20000 in
theorem gX10_succeeds_X10_wrongBits : GoodIn wsX10_succeeds (wsV RX10 164 RX10 yX10_wrongBits wsX10_wrongBits) := goodIn_app (goodIn_of _ (by decide +kernel)) ggX10_succeeds_X10_wrongBits
theorem dX10_succeeds_0 : decode cX10_succeeds 0 = .ok (.iload_n 1, 1) := by decide +kernel
theorem dX10_succeeds_1 : decode cX10_succeeds 1 = .ok (.sipush 10000, 3) := by decide +kernel
theorem dX10_succeeds_4 : decode cX10_succeeds 4 = .ok (.idiv, 1) := by decide +kernel
theorem dX10_succeeds_5 : decode cX10_succeeds 5 = .ok (.istore_n 2, 1) := by decide +kernel
theorem dX10_succeeds_6 : decode cX10_succeeds 6 = .ok (.iload_n 1, 1) := by decide +kernel
theorem dX10_succeeds_7 : decode cX10_succeeds 7 = .ok (.sipush 1000, 3) := by decide +kernel
theorem dX10_succeeds_10 : decode cX10_succeeds 10 = .ok (.idiv, 1) := by decide +kernel
theorem dX10_succeeds_11 : decode cX10_succeeds 11 = .ok (.bipush 10, 2) := by decide +kernel
theorem dX10_succeeds_13 : decode cX10_succeeds 13 = .ok (.irem, 1) := by decide +kernel
theorem dX10_succeeds_14 : decode cX10_succeeds 14 = .ok (.istore_n 3, 1) := by decide +kernel
theorem dX10_succeeds_15 : decode cX10_succeeds 15 = .ok (.iload_n 1, 1) := by decide +kernel
theorem dX10_succeeds_16 : decode cX10_succeeds 16 = .ok (.bipush 100, 2) := by decide +kernel
theorem dX10_succeeds_18 : decode cX10_succeeds 18 = .ok (.idiv, 1) := by decide +kernel
theorem dX10_succeeds_19 : decode cX10_succeeds 19 = .ok (.bipush 10, 2) := by decide +kernel
theorem dX10_succeeds_21 : decode cX10_succeeds 21 = .ok (.irem, 1) := by decide +kernel
theorem dX10_succeeds_22 : decode cX10_succeeds 22 = .ok (.istore 4, 2) := by decide +kernel
theorem dX10_succeeds_24 : decode cX10_succeeds 24 = .ok (.iload_n 1, 1) := by decide +kernel
theorem dX10_succeeds_25 : decode cX10_succeeds 25 = .ok (.bipush 10, 2) := by decide +kernel
theorem dX10_succeeds_27 : decode cX10_succeeds 27 = .ok (.idiv, 1) := by decide +kernel
theorem dX10_succeeds_28 : decode cX10_succeeds 28 = .ok (.bipush 10, 2) := by decide +kernel
theorem dX10_succeeds_30 : decode cX10_succeeds 30 = .ok (.irem, 1) := by decide +kernel
theorem dX10_succeeds_31 : decode cX10_succeeds 31 = .ok (.istore 5, 2) := by decide +kernel
theorem dX10_succeeds_33 : decode cX10_succeeds 33 = .ok (.iload_n 1, 1) := by decide +kernel
theorem dX10_succeeds_34 : decode cX10_succeeds 34 = .ok (.bipush 10, 2) := by decide +kernel
theorem dX10_succeeds_36 : decode cX10_succeeds 36 = .ok (.irem, 1) := by decide +kernel
theorem dX10_succeeds_37 : decode cX10_succeeds 37 = .ok (.istore 6, 2) := by decide +kernel
theorem dX10_succeeds_39 : decode cX10_succeeds 39 = .ok (.iload_n 2, 1) := by decide +kernel
theorem dX10_succeeds_40 : decode cX10_succeeds 40 = .ok (.i2l, 1) := by decide +kernel
theorem dX10_succeeds_41 : decode cX10_succeeds 41 = .ok (.lconst 1, 1) := by decide +kernel
theorem dX10_succeeds_42 : decode cX10_succeeds 42 = .ok (.ldc2_w 43, 3) := by decide +kernel
theorem dX10_succeeds_45 : decode cX10_succeeds 45 = .ok (.invokestatic 47, 3) := by decide +kernel
theorem dX10_succeeds_48 : decode cX10_succeeds 48 = .ok (.ifCond .eq 16, 3) := by decide +kernel
theorem dX10_succeeds_51 : decode cX10_succeeds 51 = .ok (.aload_n 0, 1) := by decide +kernel
theorem dX10_succeeds_52 : decode cX10_succeeds 52 = .ok (.iload_n 2, 1) := by decide +kernel
theorem dX10_succeeds_53 : decode cX10_succeeds 53 = .ok (.iload_n 3, 1) := by decide +kernel
theorem dX10_succeeds_54 : decode cX10_succeeds 54 = .ok (.iload 4, 2) := by decide +kernel
theorem dX10_succeeds_56 : decode cX10_succeeds 56 = .ok (.iload 5, 2) := by decide +kernel
theorem dX10_succeeds_58 : decode cX10_succeeds 58 = .ok (.iload 6, 2) := by decide +kernel
theorem dX10_succeeds_60 : decode cX10_succeeds 60 = .ok (.invokevirtual 214, 3) := by decide +kernel
theorem dX10_succeeds_63 : decode cX10_succeeds 63 = .ok (.ireturn, 1) := by decide +kernel
theorem dX10_succeeds_64 : decode cX10_succeeds 64 = .ok (.iload_n 2, 1) := by decide +kernel
theorem dX10_succeeds_65 : decode cX10_succeeds 65 = .ok (.bipush 9, 2) := by decide +kernel
theorem dX10_succeeds_67 : decode cX10_succeeds 67 = .ok (.if_icmp .ne 36, 3) := by decide +kernel
theorem dX10_succeeds_70 : decode cX10_succeeds 70 = .ok (.aload_n 0, 1) := by decide +kernel
theorem dX10_succeeds_71 : decode cX10_succeeds 71 = .ok (.iload_n 3, 1) := by decide +kernel
theorem dX10_succeeds_72 : decode cX10_succeeds 72 = .ok (.invokevirtual 178, 3) := by decide +kernel
theorem dX10_succeeds_75 : decode cX10_succeeds 75 = .ok (.ifCond .eq 26, 3) := by decide +kernel
theorem dX10_succeeds_78 : decode cX10_succeeds 78 = .ok (.iload 4, 2) := by decide +kernel
theorem dX10_succeeds_80 : decode cX10_succeeds 80 = .ok (.iload 5, 2) := by decide +kernel
theorem dX10_succeeds_82 : decode cX10_succeeds 82 = .ok (.iadd, 1) := by decide +kernel
theorem dX10_succeeds_83 : decode cX10_succeeds 83 = .ok (.ifCond .ne 18, 3) := by decide +kernel
theorem dX10_succeeds_86 : decode cX10_succeeds 86 = .ok (.aload_n 0, 1) := by decide +kernel
theorem dX10_succeeds_87 : decode cX10_succeeds 87 = .ok (.iload_n 3, 1) := by decide +kernel
theorem dX10_succeeds_88 : decode cX10_succeeds 88 = .ok (.iconst 3, 1) := by decide +kernel
theorem dX10_succeeds_89 : decode cX10_succeeds 89 = .ok (.invokevirtual 90, 3) := by decide +kernel
theorem dX10_succeeds_92 : decode cX10_succeeds 92 = .ok (.iload 6, 2) := by decide +kernel
theorem dX10_succeeds_94 : decode cX10_succeeds 94 = .ok (.if_icmp .ne 7, 3) := by decide +kernel
theorem dX10_succeeds_97 : decode cX10_succeeds 97 = .ok (.iconst 1, 1) := by decide +kernel
theorem dX10_succeeds_98 : decode cX10_succeeds 98 = .ok (.goto 4, 3) := by decide +kernel
theorem dX10_succeeds_101 : decode cX10_succeeds 101 = .ok (.iconst 0, 1) := by decide +kernel
theorem dX10_succeeds_102 : decode cX10_succeeds 102 = .ok (.ireturn, 1) := by decide +kernel
theorem dX10_succeeds_103 : decode cX10_succeeds 103 = .ok (.iload_n 2, 1) := by decide +kernel
theorem dX10_succeeds_104 : decode cX10_succeeds 104 = .ok (.ifCond .eq 27, 3) := by decide +kernel
theorem dX10_succeeds_107 : decode cX10_succeeds 107 = .ok (.aload_n 0, 1) := by decide +kernel
theorem dX10_succeeds_108 : decode cX10_succeeds 108 = .ok (.iload_n 3, 1) := by decide +kernel
theorem dX10_succeeds_109 : decode cX10_succeeds 109 = .ok (.iload 4, 2) := by decide +kernel
theorem dX10_succeeds_111 : decode cX10_succeeds 111 = .ok (.invokevirtual 161, 3) := by decide +kernel
theorem dX10_succeeds_114 : decode cX10_succeeds 114 = .ok (.ifCond .eq 17, 3) := by decide +kernel
theorem dX10_succeeds_117 : decode cX10_succeeds 117 = .ok (.aload_n 0, 1) := by decide +kernel
theorem dX10_succeeds_118 : decode cX10_succeeds 118 = .ok (.getfield 7, 3) := by decide +kernel
theorem dX10_succeeds_121 : decode cX10_succeeds 121 = .ok (.iload_n 3, 1) := by decide +kernel
theorem dX10_succeeds_122 : decode cX10_succeeds 122 = .ok (.iload 4, 2) := by decide +kernel
theorem dX10_succeeds_124 : decode cX10_succeeds 124 = .ok (.invokestatic 69, 3) := by decide +kernel
theorem dX10_succeeds_127 : decode cX10_succeeds 127 = .ok (.iaload, 1) := by decide +kernel
theorem dX10_succeeds_128 : decode cX10_succeeds 128 = .ok (.ifCond .ge 5, 3) := by decide +kernel
theorem dX10_succeeds_131 : decode cX10_succeeds 131 = .ok (.iconst 0, 1) := by decide +kernel
theorem dX10_succeeds_132 : decode cX10_succeeds 132 = .ok (.ireturn, 1) := by decide +kernel
theorem dX10_succeeds_133 : decode cX10_succeeds 133 = .ok (.aload_n 0, 1) := by decide +kernel
theorem dX10_succeeds_134 : decode cX10_succeeds 134 = .ok (.getfield 7, 3) := by decide +kernel
theorem dX10_succeeds_137 : decode cX10_succeeds 137 = .ok (.iload_n 3, 1) := by decide +kernel
theorem dX10_succeeds_138 : decode cX10_succeeds 138 = .ok (.iload 4, 2) := by decide +kernel
theorem dX10_succeeds_140 : decode cX10_succeeds 140 = .ok (.invokestatic 69, 3) := by decide +kernel
theorem dX10_succeeds_143 : decode cX10_succeeds 143 = .ok (.iaload, 1) := by decide +kernel
theorem dX10_succeeds_144 : decode cX10_succeeds 144 = .ok (.istore 7, 2) := by decide +kernel
theorem dX10_succeeds_146 : decode cX10_succeeds 146 = .ok (.iload_n 2, 1) := by decide +kernel
theorem dX10_succeeds_147 : decode cX10_succeeds 147 = .ok (.bipush 8, 2) := by decide +kernel
theorem dX10_succeeds_149 : decode cX10_succeeds 149 = .ok (.if_icmp .ne 39, 3) := by decide +kernel
theorem dX10_succeeds_152 : decode cX10_succeeds 152 = .ok (.aload_n 0, 1) := by decide +kernel
theorem dX10_succeeds_153 : decode cX10_succeeds 153 = .ok (.iload 5, 2) := by decide +kernel
theorem dX10_succeeds_155 : decode cX10_succeeds 155 = .ok (.invokevirtual 178, 3) := by decide +kernel
theorem dX10_succeeds_158 : decode cX10_succeeds 158 = .ok (.ifCond .eq 28, 3) := by decide +kernel
theorem dX10_succeeds_161 : decode cX10_succeeds 161 = .ok (.iload 6, 2) := by decide +kernel
theorem dX10_succeeds_163 : decode cX10_succeeds 163 = .ok (.ifCond .ne 23, 3) := by decide +kernel
theorem dX10_succeeds_166 : decode cX10_succeeds 166 = .ok (.aload_n 0, 1) := by decide +kernel
theorem dX10_succeeds_167 : decode cX10_succeeds 167 = .ok (.iload_n 3, 1) := by decide +kernel
theorem dX10_succeeds_168 : decode cX10_succeeds 168 = .ok (.iload 4, 2) := by decide +kernel
theorem dX10_succeeds_170 : decode cX10_succeeds 170 = .ok (.invokevirtual 100, 3) := by decide +kernel
theorem dX10_succeeds_173 : decode cX10_succeeds 173 = .ok (.iload 5, 2) := by decide +kernel
theorem dX10_succeeds_175 : decode cX10_succeeds 175 = .ok (.ishr, 1) := by decide +kernel
theorem dX10_succeeds_176 : decode cX10_succeeds 176 = .ok (.iconst 1, 1) := by decide +kernel
theorem dX10_succeeds_177 : decode cX10_succeeds 177 = .ok (.iand, 1) := by decide +kernel
theorem dX10_succeeds_178 : decode cX10_succeeds 178 = .ok (.iconst 1, 1) := by decide +kernel
theorem dX10_succeeds_179 : decode cX10_succeeds 179 = .ok (.if_icmp .ne 7, 3) := by decide +kernel
theorem dX10_succeeds_182 : decode cX10_succeeds 182 = .ok (.iconst 1, 1) := by decide +kernel
theorem dX10_succeeds_183 : decode cX10_succeeds 183 = .ok (.goto 4, 3) := by decide +kernel
theorem dX10_succeeds_186 : decode cX10_succeeds 186 = .ok (.iconst 0, 1) := by decide +kernel
theorem dX10_succeeds_187 : decode cX10_succeeds 187 = .ok (.ireturn, 1) := by decide +kernel
theorem dX10_succeeds_188 : decode cX10_succeeds 188 = .ok (.iload 5, 2) := by decide +kernel
theorem dX10_succeeds_190 : decode cX10_succeeds 190 = .ok (.ifCond .ne 38, 3) := by decide +kernel
theorem dX10_succeeds_193 : decode cX10_succeeds 193 = .ok (.iload_n 2, 1) := by decide +kernel
theorem dX10_succeeds_194 : decode cX10_succeeds 194 = .ok (.bipush 6, 2) := by decide +kernel
theorem dX10_succeeds_196 : decode cX10_succeeds 196 = .ok (.if_icmp .ne 17, 3) := by decide +kernel
theorem dX10_succeeds_199 : decode cX10_succeeds 199 = .ok (.aload_n 0, 1) := by decide +kernel
theorem dX10_succeeds_200 : decode cX10_succeeds 200 = .ok (.iload 7, 2) := by decide +kernel
theorem dX10_succeeds_202 : decode cX10_succeeds 202 = .ok (.invokevirtual 154, 3) := by decide +kernel
theorem dX10_succeeds_205 : decode cX10_succeeds 205 = .ok (.iload 6, 2) := by decide +kernel
theorem dX10_succeeds_207 : decode cX10_succeeds 207 = .ok (.if_icmp .ne 21, 3) := by decide +kernel
theorem dX10_succeeds_210 : decode cX10_succeeds 210 = .ok (.goto 14, 3) := by decide +kernel
theorem dX10_succeeds_213 : decode cX10_succeeds 213 = .ok (.aload_n 0, 1) := by decide +kernel
theorem dX10_succeeds_214 : decode cX10_succeeds 214 = .ok (.iload 7, 2) := by decide +kernel
theorem dX10_succeeds_216 : decode cX10_succeeds 216 = .ok (.invokevirtual 164, 3) := by decide +kernel
theorem dX10_succeeds_219 : decode cX10_succeeds 219 = .ok (.iload 6, 2) := by decide +kernel
theorem dX10_succeeds_221 : decode cX10_succeeds 221 = .ok (.if_icmp .gt 7, 3) := by decide +kernel
theorem dX10_succeeds_224 : decode cX10_succeeds 224 = .ok (.iconst 1, 1) := by decide +kernel
theorem dX10_succeeds_225 : decode cX10_succeeds 225 = .ok (.goto 4, 3) := by decide +kernel
theorem dX10_succeeds_228 : decode cX10_succeeds 228 = .ok (.iconst 0, 1) := by decide +kernel
theorem dX10_succeeds_229 : decode cX10_succeeds 229 = .ok (.ireturn, 1) := by decide +kernel
set_option maxRecDepth 20000 in
theorem ggX10_runScript_X10_in : GoodIn wsX10_runScript wsX10_in := goodIn_r _ [7] (by decide +kernel) (by decide +kernel)
set_option maxRecDepth 20000 in
theorem gX10_runScript_X10_in : GoodIn wsX10_runScript (va_wsS RX10 47 yX10_in wsX10_in) := goodIn_app (goodIn_of _ (by decide +kernel)) ggX10_runScript_X10_in
set_option maxRecDepth 20000 in
theorem ggX10_runScript_X10_fails : GoodIn wsX10_runScript wsX10_fails := goodIn_r _ [11, 1, 107, 108, 109, 110, 111, 112, 113, 114, 115, 116, 117, 118, 119, 120, 121, 122, 123, 124, 125] (by decide +kernel) (by decide +kernel)
set_option maxRecDepth 20000 in
theorem gX10_runScript_X10_fails : GoodIn wsX10_runScript (wsV RX10 105 RX10 yX10_fails wsX10_fails) := goodIn_app (goodIn_of _ (by decide +kernel)) ggX10_runScript_X10_fails
set_option maxRecDepth 20000 in
theorem ggX10_runScript_X10_keep : GoodIn wsX10_runScript wsX10_keep := goodIn_r _ [15, 16, 17, 18, 19, 107, 108, 109, 110, 111, 112, 113, 114, 115, 116, 117, 118, 119, 120, 121, 122, 123, 124, 125] (by decide +kernel) (by decide +kernel)
set_option maxRecDepth 20000 in
theorem gX10_runScript_X10_keep : GoodIn wsX10_runScript (wsV RX10 220 RX10 yX10_keep wsX10_keep) := goodIn_app (goodIn_of _ (by decide +kernel)) ggX10_runScript_X10_keep
set_option maxRecDepth 20000 in
theorem ggX10_runScript_X10_succeeds : GoodIn wsX10_runScript wsX10_succeeds := goodIn_r _ [23, 24, 17, 4, 5, 6, 7, 25, 26, 27, 28, 29, 30, 31, 32, 33, 34, 35, 36, 37, 38, 39, 40, 41, 42, 43, 44, 45, 46, 47, 48, 49, 50, 51, 52, 53, 54, 18, 55, 56, 57, 58, 59, 60, 61, 62, 63, 64, 65, 66, 67, 68, 69, 70, 71, 72, 73, 74, 75, 76, 77, 78, 79, 80, 81, 82, 83, 84, 85, 86, 87, 88, 89, 3, 90, 91, 92, 93, 94, 95, 96, 97, 98, 99, 100, 101, 102, 107, 108, 109, 110, 111, 112, 113, 114, 115, 116, 117, 118, 119, 120, 121, 122, 123, 124, 125] (by decide +kernel) (by decide +kernel)
set_option maxRecDepth 20000 in
theorem gX10_runScript_X10_succeeds : GoodIn wsX10_runScript (wsV RX10 223 RX10 yX10_succeeds wsX10_succeeds) := goodIn_app (goodIn_of _ (by decide +kernel)) ggX10_runScript_X10_succeeds
set_option maxRecDepth 20000 in
theorem ggX10_runScript_X10_bringBack : GoodIn wsX10_runScript wsX10_bringBack := goodIn_r _ [106, 17, 16, 19, 18, 107, 108, 109, 110, 111, 112, 113, 114, 115, 116, 117, 118, 119, 120, 121, 122, 123, 124, 125] (by decide +kernel) (by decide +kernel)
set_option maxRecDepth 20000 in
theorem gX10_runScript_X10_bringBack : GoodIn wsX10_runScript (wsV RX10 226 RX10 yX10_bringBack wsX10_bringBack) := goodIn_app (goodIn_of _ (by decide +kernel)) ggX10_runScript_X10_bringBack
theorem dX10_runScript_0 : decode cX10_runScript 0 = .ok (.aload_n 0, 1) := by decide +kernel
theorem dX10_runScript_1 : decode cX10_runScript 1 = .ok (.iconst 0, 1) := by decide +kernel
theorem dX10_runScript_2 : decode cX10_runScript 2 = .ok (.putfield 39, 3) := by decide +kernel
theorem dX10_runScript_5 : decode cX10_runScript 5 = .ok (.lconst 1, 1) := by decide +kernel
theorem dX10_runScript_6 : decode cX10_runScript 6 = .ok (.lstore 4, 2) := by decide +kernel
theorem dX10_runScript_8 : decode cX10_runScript 8 = .ok (.iconst 0, 1) := by decide +kernel
theorem dX10_runScript_9 : decode cX10_runScript 9 = .ok (.istore 6, 2) := by decide +kernel
theorem dX10_runScript_11 : decode cX10_runScript 11 = .ok (.iload 6, 2) := by decide +kernel
theorem dX10_runScript_13 : decode cX10_runScript 13 = .ok (.iload_n 1, 1) := by decide +kernel
theorem dX10_runScript_14 : decode cX10_runScript 14 = .ok (.if_icmp .ge 23, 3) := by decide +kernel
theorem dX10_runScript_17 : decode cX10_runScript 17 = .ok (.iload 6, 2) := by decide +kernel
theorem dX10_runScript_19 : decode cX10_runScript 19 = .ok (.iconst 3, 1) := by decide +kernel
theorem dX10_runScript_20 : decode cX10_runScript 20 = .ok (.if_icmp .ge 17, 3) := by decide +kernel
theorem dX10_runScript_23 : decode cX10_runScript 23 = .ok (.lload 4, 2) := by decide +kernel
theorem dX10_runScript_25 : decode cX10_runScript 25 = .ok (.ldc2_w 218, 3) := by decide +kernel
theorem dX10_runScript_28 : decode cX10_runScript 28 = .ok (.lmul, 1) := by decide +kernel
theorem dX10_runScript_29 : decode cX10_runScript 29 = .ok (.lstore 4, 2) := by decide +kernel
theorem dX10_runScript_31 : decode cX10_runScript 31 = .ok (.iinc 6 1, 3) := by decide +kernel
theorem dX10_runScript_34 : decode cX10_runScript 34 = .ok (.goto (-23), 3) := by decide +kernel
theorem dX10_runScript_37 : decode cX10_runScript 37 = .ok (.iload_n 1, 1) := by decide +kernel
theorem dX10_runScript_38 : decode cX10_runScript 38 = .ok (.i2l, 1) := by decide +kernel
theorem dX10_runScript_39 : decode cX10_runScript 39 = .ok (.lconst 1, 1) := by decide +kernel
