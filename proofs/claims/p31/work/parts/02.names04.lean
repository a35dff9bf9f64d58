theorem dX7_clear_0 : decode cX7_clear 0 = .ok (.aload_n 0, 1) := by decide +kernel
theorem dX7_clear_1 : decode cX7_clear 1 = .ok (.getfield 12, 3) := by decide +kernel
theorem dX7_clear_4 : decode cX7_clear 4 = .ok (.invokevirtual 33, 3) := by decide +kernel
theorem dX7_clear_7 : decode cX7_clear 7 = .ok (.aload_n 0, 1) := by decide +kernel
theorem dX7_clear_8 : decode cX7_clear 8 = .ok (.getfield 21, 3) := by decide +kernel
theorem dX7_clear_11 : decode cX7_clear 11 = .ok (.invokevirtual 35, 3) := by decide +kernel
theorem dX7_clear_14 : decode cX7_clear 14 = .ok (.aload_n 0, 1) := by decide +kernel
theorem dX7_clear_15 : decode cX7_clear 15 = .ok (.getfield 25, 3) := by decide +kernel
theorem dX7_clear_18 : decode cX7_clear 18 = .ok (.bipush (-9), 2) := by decide +kernel
theorem dX7_clear_20 : decode cX7_clear 20 = .ok (.invokestatic 36, 3) := by decide +kernel
theorem dX7_clear_23 : decode cX7_clear 23 = .ok (.aload_n 0, 1) := by decide +kernel
theorem dX7_clear_24 : decode cX7_clear 24 = .ok (.iload_n 1, 1) := by decide +kernel
theorem dX7_clear_25 : decode cX7_clear 25 = .ok (.putfield 42, 3) := by decide +kernel
theorem dX7_clear_28 : decode cX7_clear 28 = .ok (.aload_n 0, 1) := by decide +kernel
theorem dX7_clear_29 : decode cX7_clear 29 = .ok (.iconst 1, 1) := by decide +kernel
theorem dX7_clear_30 : decode cX7_clear 30 = .ok (.putfield 46, 3) := by decide +kernel
theorem dX7_clear_33 : decode cX7_clear 33 = .ok (.aload_n 0, 1) := by decide +kernel
theorem dX7_clear_34 : decode cX7_clear 34 = .ok (.iconst 2, 1) := by decide +kernel
theorem dX7_clear_35 : decode cX7_clear 35 = .ok (.putfield 49, 3) := by decide +kernel
theorem dX7_clear_38 : decode cX7_clear 38 = .ok (.aload_n 0, 1) := by decide +kernel
theorem dX7_clear_39 : decode cX7_clear 39 = .ok (.lconst 1, 1) := by decide +kernel
theorem dX7_clear_40 : decode cX7_clear 40 = .ok (.putfield 52, 3) := by decide +kernel
theorem dX7_clear_43 : decode cX7_clear 43 = .ok (.return_, 1) := by decide +kernel
set_option maxRecDepth 20000 in
theorem ggX7_copyFrom_X4_copyFrom : GoodIn wsX7_copyFrom wsX4_copyFrom := goodIn_r _ [16, 17, 18, 5, 6, 7, 19, 20, 21, 22, 23, 42, 43, 44, 45, 46, 47] (by decide +kernel) (by decide +kernel)
set_option maxRecDepth 20000 in
theorem gX7_copyFrom_X4_copyFrom : GoodIn wsX7_copyFrom (wsV RX7 56 RX4 yX4_copyFrom wsX4_copyFrom) := goodIn_app (goodIn_of _ (by decide +kernel)) ggX7_copyFrom_X4_copyFrom
set_option maxRecDepth 20000 in
theorem ggX7_copyFrom_X0_copyFrom : GoodIn wsX7_copyFrom wsX0_copyFrom := goodIn_r _ [28, 29, 30, 5, 6, 7, 31, 32, 33, 34, 48, 49, 50, 51, 52] (by decide +kernel) (by decide +kernel)
set_option maxRecDepth 20000 in
theorem gX7_copyFrom_X0_copyFrom : GoodIn wsX7_copyFrom (wsV RX7 60 RX0 yX0_copyFrom wsX0_copyFrom) := goodIn_app (goodIn_of _ (by decide +kernel)) ggX7_copyFrom_X0_copyFrom
theorem dX7_copyFrom_0 : decode cX7_copyFrom 0 = .ok (.aload_n 0, 1) := by decide +kernel
theorem dX7_copyFrom_1 : decode cX7_copyFrom 1 = .ok (.getfield 12, 3) := by decide +kernel
theorem dX7_copyFrom_4 : decode cX7_copyFrom 4 = .ok (.aload_n 1, 1) := by decide +kernel
theorem dX7_copyFrom_5 : decode cX7_copyFrom 5 = .ok (.getfield 12, 3) := by decide +kernel
theorem dX7_copyFrom_8 : decode cX7_copyFrom 8 = .ok (.invokevirtual 56, 3) := by decide +kernel
theorem dX7_copyFrom_11 : decode cX7_copyFrom 11 = .ok (.aload_n 0, 1) := by decide +kernel
theorem dX7_copyFrom_12 : decode cX7_copyFrom 12 = .ok (.getfield 21, 3) := by decide +kernel
theorem dX7_copyFrom_15 : decode cX7_copyFrom 15 = .ok (.aload_n 1, 1) := by decide +kernel
theorem dX7_copyFrom_16 : decode cX7_copyFrom 16 = .ok (.getfield 21, 3) := by decide +kernel
theorem dX7_copyFrom_19 : decode cX7_copyFrom 19 = .ok (.invokevirtual 60, 3) := by decide +kernel
theorem dX7_copyFrom_22 : decode cX7_copyFrom 22 = .ok (.aload_n 1, 1) := by decide +kernel
theorem dX7_copyFrom_23 : decode cX7_copyFrom 23 = .ok (.getfield 25, 3) := by decide +kernel
theorem dX7_copyFrom_26 : decode cX7_copyFrom 26 = .ok (.iconst 0, 1) := by decide +kernel
theorem dX7_copyFrom_27 : decode cX7_copyFrom 27 = .ok (.aload_n 0, 1) := by decide +kernel
theorem dX7_copyFrom_28 : decode cX7_copyFrom 28 = .ok (.getfield 25, 3) := by decide +kernel
theorem dX7_copyFrom_31 : decode cX7_copyFrom 31 = .ok (.iconst 0, 1) := by decide +kernel
theorem dX7_copyFrom_32 : decode cX7_copyFrom 32 = .ok (.bipush 54, 2) := by decide +kernel
theorem dX7_copyFrom_34 : decode cX7_copyFrom 34 = .ok (.invokestatic 63, 3) := by decide +kernel
theorem dX7_copyFrom_37 : decode cX7_copyFrom 37 = .ok (.aload_n 0, 1) := by decide +kernel
theorem dX7_copyFrom_38 : decode cX7_copyFrom 38 = .ok (.aload_n 1, 1) := by decide +kernel
theorem dX7_copyFrom_39 : decode cX7_copyFrom 39 = .ok (.getfield 42, 3) := by decide +kernel
theorem dX7_copyFrom_42 : decode cX7_copyFrom 42 = .ok (.putfield 42, 3) := by decide +kernel
theorem dX7_copyFrom_45 : decode cX7_copyFrom 45 = .ok (.aload_n 0, 1) := by decide +kernel
theorem dX7_copyFrom_46 : decode cX7_copyFrom 46 = .ok (.aload_n 1, 1) := by decide +kernel
theorem dX7_copyFrom_47 : decode cX7_copyFrom 47 = .ok (.getfield 46, 3) := by decide +kernel
theorem dX7_copyFrom_50 : decode cX7_copyFrom 50 = .ok (.putfield 46, 3) := by decide +kernel
theorem dX7_copyFrom_53 : decode cX7_copyFrom 53 = .ok (.aload_n 0, 1) := by decide +kernel
theorem dX7_copyFrom_54 : decode cX7_copyFrom 54 = .ok (.aload_n 1, 1) := by decide +kernel
theorem dX7_copyFrom_55 : decode cX7_copyFrom 55 = .ok (.getfield 49, 3) := by decide +kernel
theorem dX7_copyFrom_58 : decode cX7_copyFrom 58 = .ok (.putfield 49, 3) := by decide +kernel
theorem dX7_copyFrom_61 : decode cX7_copyFrom 61 = .ok (.aload_n 0, 1) := by decide +kernel
theorem dX7_copyFrom_62 : decode cX7_copyFrom 62 = .ok (.aload_n 1, 1) := by decide +kernel
theorem dX7_copyFrom_63 : decode cX7_copyFrom 63 = .ok (.getfield 52, 3) := by decide +kernel
theorem dX7_copyFrom_66 : decode cX7_copyFrom 66 = .ok (.putfield 52, 3) := by decide +kernel
theorem dX7_copyFrom_69 : decode cX7_copyFrom 69 = .ok (.return_, 1) := by decide +kernel
theorem dX7_houses_0 : decode cX7_houses 0 = .ok (.aload_n 0, 1) := by decide +kernel
theorem dX7_houses_1 : decode cX7_houses 1 = .ok (.getfield 42, 3) := by decide +kernel
theorem dX7_houses_4 : decode cX7_houses 4 = .ok (.ireturn, 1) := by decide +kernel
theorem dX7_noise_0 : decode cX7_noise 0 = .ok (.aload_n 0, 1) := by decide +kernel
theorem dX7_noise_1 : decode cX7_noise 1 = .ok (.getfield 46, 3) := by decide +kernel
theorem dX7_noise_4 : decode cX7_noise 4 = .ok (.ireturn, 1) := by decide +kernel
theorem dX7_reach_0 : decode cX7_reach 0 = .ok (.aload_n 0, 1) := by decide +kernel
theorem dX7_reach_1 : decode cX7_reach 1 = .ok (.getfield 49, 3) := by decide +kernel
theorem dX7_reach_4 : decode cX7_reach 4 = .ok (.ireturn, 1) := by decide +kernel
theorem dX7_hasHouse_0 : decode cX7_hasHouse 0 = .ok (.iload_n 1, 1) := by decide +kernel
theorem dX7_hasHouse_1 : decode cX7_hasHouse 1 = .ok (.ifCond .lt 21, 3) := by decide +kernel
theorem dX7_hasHouse_4 : decode cX7_hasHouse 4 = .ok (.iload_n 1, 1) := by decide +kernel
theorem dX7_hasHouse_5 : decode cX7_hasHouse 5 = .ok (.aload_n 0, 1) := by decide +kernel
theorem dX7_hasHouse_6 : decode cX7_hasHouse 6 = .ok (.getfield 42, 3) := by decide +kernel
theorem dX7_hasHouse_9 : decode cX7_hasHouse 9 = .ok (.if_icmp .ge 13, 3) := by decide +kernel
theorem dX7_hasHouse_12 : decode cX7_hasHouse 12 = .ok (.iload_n 1, 1) := by decide +kernel
theorem dX7_hasHouse_13 : decode cX7_hasHouse 13 = .ok (.bipush 9, 2) := by decide +kernel
theorem dX7_hasHouse_15 : decode cX7_hasHouse 15 = .ok (.if_icmp .ge 7, 3) := by decide +kernel
theorem dX7_hasHouse_18 : decode cX7_hasHouse 18 = .ok (.iconst 1, 1) := by decide +kernel
theorem dX7_hasHouse_19 : decode cX7_hasHouse 19 = .ok (.goto 4, 3) := by decide +kernel
theorem dX7_hasHouse_22 : decode cX7_hasHouse 22 = .ok (.iconst 0, 1) := by decide +kernel
theorem dX7_hasHouse_23 : decode cX7_hasHouse 23 = .ok (.ireturn, 1) := by decide +kernel
theorem dX7_hasKey_0 : decode cX7_hasKey 0 = .ok (.iload_n 1, 1) := by decide +kernel
theorem dX7_hasKey_1 : decode cX7_hasKey 1 = .ok (.ifCond .lt 31, 3) := by decide +kernel
theorem dX7_hasKey_4 : decode cX7_hasKey 4 = .ok (.iload_n 1, 1) := by decide +kernel
theorem dX7_hasKey_5 : decode cX7_hasKey 5 = .ok (.aload_n 0, 1) := by decide +kernel
theorem dX7_hasKey_6 : decode cX7_hasKey 6 = .ok (.getfield 42, 3) := by decide +kernel
theorem dX7_hasKey_9 : decode cX7_hasKey 9 = .ok (.if_icmp .ge 23, 3) := by decide +kernel
theorem dX7_hasKey_12 : decode cX7_hasKey 12 = .ok (.iload_n 1, 1) := by decide +kernel
theorem dX7_hasKey_13 : decode cX7_hasKey 13 = .ok (.bipush 9, 2) := by decide +kernel
theorem dX7_hasKey_15 : decode cX7_hasKey 15 = .ok (.if_icmp .ge 17, 3) := by decide +kernel
theorem dX7_hasKey_18 : decode cX7_hasKey 18 = .ok (.iload_n 2, 1) := by decide +kernel
theorem dX7_hasKey_19 : decode cX7_hasKey 19 = .ok (.ifCond .lt 13, 3) := by decide +kernel
theorem dX7_hasKey_22 : decode cX7_hasKey 22 = .ok (.iload_n 2, 1) := by decide +kernel
theorem dX7_hasKey_23 : decode cX7_hasKey 23 = .ok (.bipush 6, 2) := by decide +kernel
theorem dX7_hasKey_25 : decode cX7_hasKey 25 = .ok (.if_icmp .ge 7, 3) := by decide +kernel
theorem dX7_hasKey_28 : decode cX7_hasKey 28 = .ok (.iconst 1, 1) := by decide +kernel
theorem dX7_hasKey_29 : decode cX7_hasKey 29 = .ok (.goto 4, 3) := by decide +kernel
theorem dX7_hasKey_32 : decode cX7_hasKey 32 = .ok (.iconst 0, 1) := by decide +kernel
theorem dX7_hasKey_33 : decode cX7_hasKey 33 = .ok (.ireturn, 1) := by decide +kernel
set_option maxRecDepth 20000 in
theorem ggX7_hasCode_X7_recordOf : GoodIn wsX7_hasCode wsX7_recordOf := goodIn_r _ [5, 6, 7, 8, 9, 4, 10, 11, 12, 13, 14, 15, 16, 17, 18] (by decide +kernel) (by decide +kernel)
set_option maxRecDepth 20000 in
theorem gX7_hasCode_X7_recordOf : GoodIn wsX7_hasCode (wsV RX7 69 RX7 yX7_recordOf wsX7_recordOf) := goodIn_app (goodIn_of _ (by decide +kernel)) ggX7_hasCode_X7_recordOf
theorem dX7_hasCode_0 : decode cX7_hasCode 0 = .ok (.aload_n 0, 1) := by decide +kernel
theorem dX7_hasCode_1 : decode cX7_hasCode 1 = .ok (.iload_n 1, 1) := by decide +kernel
theorem dX7_hasCode_2 : decode cX7_hasCode 2 = .ok (.iload_n 2, 1) := by decide +kernel
theorem dX7_hasCode_3 : decode cX7_hasCode 3 = .ok (.invokevirtual 69, 3) := by decide +kernel
theorem dX7_hasCode_6 : decode cX7_hasCode 6 = .ok (.bipush (-9), 2) := by decide +kernel
theorem dX7_hasCode_8 : decode cX7_hasCode 8 = .ok (.if_icmp .eq 7, 3) := by decide +kernel
theorem dX7_hasCode_11 : decode cX7_hasCode 11 = .ok (.iconst 1, 1) := by decide +kernel
theorem dX7_hasCode_12 : decode cX7_hasCode 12 = .ok (.goto 4, 3) := by decide +kernel
theorem dX7_hasCode_15 : decode cX7_hasCode 15 = .ok (.iconst 0, 1) := by decide +kernel
theorem dX7_hasCode_16 : decode cX7_hasCode 16 = .ok (.ireturn, 1) := by decide +kernel
set_option maxRecDepth 20000 in
theorem ggX7_recordOf_X7_hasKey : GoodIn wsX7_recordOf wsX7_hasKey := goodIn_r _ [6, 7, 8, 9, 10, 11, 12, 13, 14] (by decide +kernel) (by decide +kernel)
set_option maxRecDepth 20000 in
theorem gX7_recordOf_X7_hasKey : GoodIn wsX7_recordOf (wsV RX7 73 RX7 yX7_hasKey wsX7_hasKey) := goodIn_app (goodIn_of _ (by decide +kernel)) ggX7_recordOf_X7_hasKey
theorem dX7_recordOf_0 : decode cX7_recordOf 0 = .ok (.aload_n 0, 1) := by decide +kernel
theorem dX7_recordOf_1 : decode cX7_recordOf 1 = .ok (.iload_n 1, 1) := by decide +kernel
theorem dX7_recordOf_2 : decode cX7_recordOf 2 = .ok (.iload_n 2, 1) := by decide +kernel
theorem dX7_recordOf_3 : decode cX7_recordOf 3 = .ok (.invokevirtual 73, 3) := by decide +kernel
theorem dX7_recordOf_6 : decode cX7_recordOf 6 = .ok (.ifCond .eq 17, 3) := by decide +kernel
theorem dX7_recordOf_9 : decode cX7_recordOf 9 = .ok (.aload_n 0, 1) := by decide +kernel
theorem dX7_recordOf_10 : decode cX7_recordOf 10 = .ok (.getfield 25, 3) := by decide +kernel
theorem dX7_recordOf_13 : decode cX7_recordOf 13 = .ok (.iload_n 1, 1) := by decide +kernel
theorem dX7_recordOf_14 : decode cX7_recordOf 14 = .ok (.bipush 6, 2) := by decide +kernel
theorem dX7_recordOf_16 : decode cX7_recordOf 16 = .ok (.imul, 1) := by decide +kernel
theorem dX7_recordOf_17 : decode cX7_recordOf 17 = .ok (.iload_n 2, 1) := by decide +kernel
theorem dX7_recordOf_18 : decode cX7_recordOf 18 = .ok (.iadd, 1) := by decide +kernel
theorem dX7_recordOf_19 : decode cX7_recordOf 19 = .ok (.iaload, 1) := by decide +kernel
theorem dX7_recordOf_20 : decode cX7_recordOf 20 = .ok (.goto 5, 3) := by decide +kernel
theorem dX7_recordOf_23 : decode cX7_recordOf 23 = .ok (.bipush (-9), 2) := by decide +kernel
theorem dX7_recordOf_25 : decode cX7_recordOf 25 = .ok (.ireturn, 1) := by decide +kernel
set_option maxRecDepth 20000 in
theorem ggX7_codeOf_X7_recordOf : GoodIn wsX7_codeOf wsX7_recordOf := goodIn_r _ [6, 7, 8, 9, 10, 5, 11, 12, 24, 25, 26, 27, 28, 29, 30] (by decide +kernel) (by decide +kernel)
set_option maxRecDepth 20000 in
theorem gX7_codeOf_X7_recordOf : GoodIn wsX7_codeOf (wsV RX7 69 RX7 yX7_recordOf wsX7_recordOf) := goodIn_app (goodIn_of _ (by decide +kernel)) ggX7_codeOf_X7_recordOf
set_option maxRecDepth 20000 in
theorem ggX7_codeOf_X4_codeOf : GoodIn wsX7_codeOf wsX4_codeOf := goodIn_r _ [17, 18, 19, 20, 21, 16, 22, 23, 31, 32, 33, 34, 35, 36] (by decide +kernel) (by decide +kernel)
set_option maxRecDepth 20000 in
theorem gX7_codeOf_X4_codeOf : GoodIn wsX7_codeOf (wsV RX7 77 RX4 yX4_codeOf wsX4_codeOf) := goodIn_app (goodIn_of _ (by decide +kernel)) ggX7_codeOf_X4_codeOf
theorem dX7_codeOf_0 : decode cX7_codeOf 0 = .ok (.aload_n 0, 1) := by decide +kernel
theorem dX7_codeOf_1 : decode cX7_codeOf 1 = .ok (.getfield 12, 3) := by decide +kernel
theorem dX7_codeOf_4 : decode cX7_codeOf 4 = .ok (.aload_n 0, 1) := by decide +kernel
theorem dX7_codeOf_5 : decode cX7_codeOf 5 = .ok (.iload_n 1, 1) := by decide +kernel
theorem dX7_codeOf_6 : decode cX7_codeOf 6 = .ok (.iload_n 2, 1) := by decide +kernel
theorem dX7_codeOf_7 : decode cX7_codeOf 7 = .ok (.invokevirtual 69, 3) := by decide +kernel
theorem dX7_codeOf_10 : decode cX7_codeOf 10 = .ok (.invokevirtual 77, 3) := by decide +kernel
theorem dX7_codeOf_13 : decode cX7_codeOf 13 = .ok (.ireturn, 1) := by decide +kernel
set_option maxRecDepth 20000 in
theorem ggX7_giveRecord_X7_hasKey : GoodIn wsX7_giveRecord wsX7_hasKey := goodIn_r _ [6, 7, 8, 9, 10, 11, 12, 13, 14] (by decide +kernel) (by decide +kernel)
set_option maxRecDepth 20000 in
theorem gX7_giveRecord_X7_hasKey : GoodIn wsX7_giveRecord (wsV RX7 73 RX7 yX7_hasKey wsX7_hasKey) := goodIn_app (goodIn_of _ (by decide +kernel)) ggX7_giveRecord_X7_hasKey
theorem dX7_giveRecord_0 : decode cX7_giveRecord 0 = .ok (.aload_n 0, 1) := by decide +kernel
theorem dX7_giveRecord_1 : decode cX7_giveRecord 1 = .ok (.iload_n 1, 1) := by decide +kernel
theorem dX7_giveRecord_2 : decode cX7_giveRecord 2 = .ok (.iload_n 2, 1) := by decide +kernel
theorem dX7_giveRecord_3 : decode cX7_giveRecord 3 = .ok (.invokevirtual 73, 3) := by decide +kernel
theorem dX7_giveRecord_6 : decode cX7_giveRecord 6 = .ok (.ifCond .eq 15, 3) := by decide +kernel
theorem dX7_giveRecord_9 : decode cX7_giveRecord 9 = .ok (.aload_n 0, 1) := by decide +kernel
theorem dX7_giveRecord_10 : decode cX7_giveRecord 10 = .ok (.getfield 25, 3) := by decide +kernel
theorem dX7_giveRecord_13 : decode cX7_giveRecord 13 = .ok (.iload_n 1, 1) := by decide +kernel
theorem dX7_giveRecord_14 : decode cX7_giveRecord 14 = .ok (.bipush 6, 2) := by decide +kernel
theorem dX7_giveRecord_16 : decode cX7_giveRecord 16 = .ok (.imul, 1) := by decide +kernel
theorem dX7_giveRecord_17 : decode cX7_giveRecord 17 = .ok (.iload_n 2, 1) := by decide +kernel
theorem dX7_giveRecord_18 : decode cX7_giveRecord 18 = .ok (.iadd, 1) := by decide +kernel
theorem dX7_giveRecord_19 : decode cX7_giveRecord 19 = .ok (.iload_n 3, 1) := by decide +kernel
theorem dX7_giveRecord_20 : decode cX7_giveRecord 20 = .ok (.iastore, 1) := by decide +kernel
theorem dX7_giveRecord_21 : decode cX7_giveRecord 21 = .ok (.return_, 1) := by decide +kernel
set_option maxRecDepth 20000 in
theorem ggX7_differentRoots_X4_rootOf : GoodIn wsX7_differentRoots wsX4_rootOf := goodIn_r _ [7, 8, 9, 10, 6, 11, 12, 13, 14, 15, 16, 17, 18, 19, 20, 21, 22, 23, 24, 25, 26, 27, 28, 29, 44, 45, 46, 47, 48, 49] (by decide +kernel) (by decide +kernel)
set_option maxRecDepth 20000 in
theorem gX7_differentRoots_X4_rootOf : GoodIn wsX7_differentRoots (wsV RX7 81 RX4 yX4_rootOf wsX4_rootOf) := goodIn_app (goodIn_of _ (by decide +kernel)) ggX7_differentRoots_X4_rootOf
set_option maxRecDepth 20000 in
theorem ggX7_differentRoots_J13_bitCount_95d88 : GoodIn wsX7_differentRoots wsJ13_bitCount_95d88 := goodIn_r _ [33, 34, 35, 36] (by decide +kernel) (by decide +kernel)
set_option maxRecDepth 20000 in
theorem gX7_differentRoots_J13_bitCount_95d88 : GoodIn wsX7_differentRoots (va_wsS RX7 84 yJ13_bitCount_95d88 wsJ13_bitCount_95d88) := goodIn_app (goodIn_of _ (by decide +kernel)) ggX7_differentRoots_J13_bitCount_95d88
theorem dX7_differentRoots_0 : decode cX7_differentRoots 0 = .ok (.lconst 0, 1) := by decide +kernel
theorem dX7_differentRoots_1 : decode cX7_differentRoots 1 = .ok (.lstore_n 1, 1) := by decide +kernel
theorem dX7_differentRoots_2 : decode cX7_differentRoots 2 = .ok (.aload_n 0, 1) := by decide +kernel
theorem dX7_differentRoots_3 : decode cX7_differentRoots 3 = .ok (.getfield 25, 3) := by decide +kernel
theorem dX7_differentRoots_6 : decode cX7_differentRoots 6 = .ok (.astore_n 3, 1) := by decide +kernel
theorem dX7_differentRoots_7 : decode cX7_differentRoots 7 = .ok (.aload_n 3, 1) := by decide +kernel
theorem dX7_differentRoots_8 : decode cX7_differentRoots 8 = .ok (.arraylength, 1) := by decide +kernel
theorem dX7_differentRoots_9 : decode cX7_differentRoots 9 = .ok (.istore 4, 2) := by decide +kernel
theorem dX7_differentRoots_11 : decode cX7_differentRoots 11 = .ok (.iconst 0, 1) := by decide +kernel
theorem dX7_differentRoots_12 : decode cX7_differentRoots 12 = .ok (.istore 5, 2) := by decide +kernel
theorem dX7_differentRoots_14 : decode cX7_differentRoots 14 = .ok (.iload 5, 2) := by decide +kernel
theorem dX7_differentRoots_16 : decode cX7_differentRoots 16 = .ok (.iload 4, 2) := by decide +kernel
theorem dX7_differentRoots_18 : decode cX7_differentRoots 18 = .ok (.if_icmp .ge 36, 3) := by decide +kernel
theorem dX7_differentRoots_21 : decode cX7_differentRoots 21 = .ok (.aload_n 3, 1) := by decide +kernel
theorem dX7_differentRoots_22 : decode cX7_differentRoots 22 = .ok (.iload 5, 2) := by decide +kernel
theorem dX7_differentRoots_24 : decode cX7_differentRoots 24 = .ok (.iaload, 1) := by decide +kernel
theorem dX7_differentRoots_25 : decode cX7_differentRoots 25 = .ok (.istore 6, 2) := by decide +kernel
theorem dX7_differentRoots_27 : decode cX7_differentRoots 27 = .ok (.iload 6, 2) := by decide +kernel
theorem dX7_differentRoots_29 : decode cX7_differentRoots 29 = .ok (.bipush (-9), 2) := by decide +kernel
theorem dX7_differentRoots_31 : decode cX7_differentRoots 31 = .ok (.if_icmp .eq 17, 3) := by decide +kernel
theorem dX7_differentRoots_34 : decode cX7_differentRoots 34 = .ok (.lload_n 1, 1) := by decide +kernel
theorem dX7_differentRoots_35 : decode cX7_differentRoots 35 = .ok (.lconst 1, 1) := by decide +kernel
theorem dX7_differentRoots_36 : decode cX7_differentRoots 36 = .ok (.aload_n 0, 1) := by decide +kernel
theorem dX7_differentRoots_37 : decode cX7_differentRoots 37 = .ok (.getfield 12, 3) := by decide +kernel
theorem dX7_differentRoots_40 : decode cX7_differentRoots 40 = .ok (.iload 6, 2) := by decide +kernel
theorem dX7_differentRoots_42 : decode cX7_differentRoots 42 = .ok (.invokevirtual 81, 3) := by decide +kernel
theorem dX7_differentRoots_45 : decode cX7_differentRoots 45 = .ok (.lshl, 1) := by decide +kernel
theorem dX7_differentRoots_46 : decode cX7_differentRoots 46 = .ok (.lor, 1) := by decide +kernel
theorem dX7_differentRoots_47 : decode cX7_differentRoots 47 = .ok (.lstore_n 1, 1) := by decide +kernel
theorem dX7_differentRoots_48 : decode cX7_differentRoots 48 = .ok (.iinc 5 1, 3) := by decide +kernel
theorem dX7_differentRoots_51 : decode cX7_differentRoots 51 = .ok (.goto (-37), 3) := by decide +kernel
theorem dX7_differentRoots_54 : decode cX7_differentRoots 54 = .ok (.lload_n 1, 1) := by decide +kernel
theorem dX7_differentRoots_55 : decode cX7_differentRoots 55 = .ok (.invokestatic 84, 3) := by decide +kernel
theorem dX7_differentRoots_58 : decode cX7_differentRoots 58 = .ok (.ireturn, 1) := by decide +kernel
set_option maxRecDepth 20000 in
theorem ggX7_keysFrom_X4_isInChain : GoodIn wsX7_keysFrom wsX4_isInChain := goodIn_r _ [7, 8, 9, 10, 6, 11, 12, 13, 14, 15, 16, 17, 25, 26, 27, 28, 29, 30] (by decide +kernel) (by decide +kernel)
set_option maxRecDepth 20000 in
theorem gX7_keysFrom_X4_isInChain : GoodIn wsX7_keysFrom (wsV RX7 90 RX4 yX4_isInChain wsX4_isInChain) := goodIn_app (goodIn_of _ (by decide +kernel)) ggX7_keysFrom_X4_isInChain
theorem dX7_keysFrom_0 : decode cX7_keysFrom 0 = .ok (.iconst 0, 1) := by decide +kernel
theorem dX7_keysFrom_1 : decode cX7_keysFrom 1 = .ok (.istore_n 2, 1) := by decide +kernel
theorem dX7_keysFrom_2 : decode cX7_keysFrom 2 = .ok (.aload_n 0, 1) := by decide +kernel
theorem dX7_keysFrom_3 : decode cX7_keysFrom 3 = .ok (.getfield 25, 3) := by decide +kernel
theorem dX7_keysFrom_6 : decode cX7_keysFrom 6 = .ok (.astore_n 3, 1) := by decide +kernel
theorem dX7_keysFrom_7 : decode cX7_keysFrom 7 = .ok (.aload_n 3, 1) := by decide +kernel
theorem dX7_keysFrom_8 : decode cX7_keysFrom 8 = .ok (.arraylength, 1) := by decide +kernel
theorem dX7_keysFrom_9 : decode cX7_keysFrom 9 = .ok (.istore 4, 2) := by decide +kernel
theorem dX7_keysFrom_11 : decode cX7_keysFrom 11 = .ok (.iconst 0, 1) := by decide +kernel
theorem dX7_keysFrom_12 : decode cX7_keysFrom 12 = .ok (.istore 5, 2) := by decide +kernel
theorem dX7_keysFrom_14 : decode cX7_keysFrom 14 = .ok (.iload 5, 2) := by decide +kernel
theorem dX7_keysFrom_16 : decode cX7_keysFrom 16 = .ok (.iload 4, 2) := by decide +kernel
theorem dX7_keysFrom_18 : decode cX7_keysFrom 18 = .ok (.if_icmp .ge 31, 3) := by decide +kernel
theorem dX7_keysFrom_21 : decode cX7_keysFrom 21 = .ok (.aload_n 3, 1) := by decide +kernel
theorem dX7_keysFrom_22 : decode cX7_keysFrom 22 = .ok (.iload 5, 2) := by decide +kernel
theorem dX7_keysFrom_24 : decode cX7_keysFrom 24 = .ok (.iaload, 1) := by decide +kernel
theorem dX7_keysFrom_25 : decode cX7_keysFrom 25 = .ok (.istore 6, 2) := by decide +kernel
theorem dX7_keysFrom_27 : decode cX7_keysFrom 27 = .ok (.aload_n 0, 1) := by decide +kernel
theorem dX7_keysFrom_28 : decode cX7_keysFrom 28 = .ok (.getfield 12, 3) := by decide +kernel
theorem dX7_keysFrom_31 : decode cX7_keysFrom 31 = .ok (.iload_n 1, 1) := by decide +kernel
theorem dX7_keysFrom_32 : decode cX7_keysFrom 32 = .ok (.iload 6, 2) := by decide +kernel
theorem dX7_keysFrom_34 : decode cX7_keysFrom 34 = .ok (.invokevirtual 90, 3) := by decide +kernel
theorem dX7_keysFrom_37 : decode cX7_keysFrom 37 = .ok (.ifCond .eq 6, 3) := by decide +kernel
theorem dX7_keysFrom_40 : decode cX7_keysFrom 40 = .ok (.iinc 2 1, 3) := by decide +kernel
theorem dX7_keysFrom_43 : decode cX7_keysFrom 43 = .ok (.iinc 5 1, 3) := by decide +kernel
theorem dX7_keysFrom_46 : decode cX7_keysFrom 46 = .ok (.goto (-32), 3) := by decide +kernel
theorem dX7_keysFrom_49 : decode cX7_keysFrom 49 = .ok (.iload_n 2, 1) := by decide +kernel
theorem dX7_keysFrom_50 : decode cX7_keysFrom 50 = .ok (.ireturn, 1) := by decide +kernel
set_option maxRecDepth 20000 in
theorem ggX7_keysAcceptedBy_X7_codeOf : GoodIn wsX7_keysAcceptedBy wsX7_codeOf := goodIn_r _ [7, 8, 9, 10, 11, 6, 12, 13, 14, 15, 16, 17, 1, 18, 19, 20, 21, 22, 23, 24, 25, 26, 27, 28, 53, 54, 55, 56, 57, 58, 59, 60, 61, 62, 63, 64, 65] (by decide +kernel) (by decide +kernel)
set_option maxRecDepth 20000 in
theorem gX7_keysAcceptedBy_X7_codeOf : GoodIn wsX7_keysAcceptedBy (wsV RX7 93 RX7 yX7_codeOf wsX7_codeOf) := goodIn_app (goodIn_of _ (by decide +kernel)) ggX7_keysAcceptedBy_X7_codeOf
set_option maxRecDepth 20000 in
theorem ggX7_keysAcceptedBy_X0_accepts : GoodIn wsX7_keysAcceptedBy wsX0_accepts := goodIn_r _ [33, 34, 35, 36, 37, 38, 39, 40, 41, 42, 43, 32, 44, 45, 46, 47, 48, 49, 50, 51, 52, 66, 67, 68, 69, 70] (by decide +kernel) (by decide +kernel)
set_option maxRecDepth 20000 in
theorem gX7_keysAcceptedBy_X0_accepts : GoodIn wsX7_keysAcceptedBy (wsV RX7 95 RX0 yX0_accepts wsX0_accepts) := goodIn_app (goodIn_of _ (by decide +kernel)) ggX7_keysAcceptedBy_X0_accepts
theorem dX7_keysAcceptedBy_0 : decode cX7_keysAcceptedBy 0 = .ok (.iconst 0, 1) := by decide +kernel
theorem dX7_keysAcceptedBy_1 : decode cX7_keysAcceptedBy 1 = .ok (.istore_n 2, 1) := by decide +kernel
theorem dX7_keysAcceptedBy_2 : decode cX7_keysAcceptedBy 2 = .ok (.iconst 0, 1) := by decide +kernel
theorem dX7_keysAcceptedBy_3 : decode cX7_keysAcceptedBy 3 = .ok (.istore_n 3, 1) := by decide +kernel
theorem dX7_keysAcceptedBy_4 : decode cX7_keysAcceptedBy 4 = .ok (.iload_n 3, 1) := by decide +kernel
theorem dX7_keysAcceptedBy_5 : decode cX7_keysAcceptedBy 5 = .ok (.aload_n 0, 1) := by decide +kernel
theorem dX7_keysAcceptedBy_6 : decode cX7_keysAcceptedBy 6 = .ok (.getfield 42, 3) := by decide +kernel
theorem dX7_keysAcceptedBy_9 : decode cX7_keysAcceptedBy 9 = .ok (.if_icmp .ge 49, 3) := by decide +kernel
theorem dX7_keysAcceptedBy_12 : decode cX7_keysAcceptedBy 12 = .ok (.iconst 0, 1) := by decide +kernel
theorem dX7_keysAcceptedBy_13 : decode cX7_keysAcceptedBy 13 = .ok (.istore 4, 2) := by decide +kernel
theorem dX7_keysAcceptedBy_15 : decode cX7_keysAcceptedBy 15 = .ok (.iload 4, 2) := by decide +kernel
theorem dX7_keysAcceptedBy_17 : decode cX7_keysAcceptedBy 17 = .ok (.bipush 6, 2) := by decide +kernel
theorem dX7_keysAcceptedBy_19 : decode cX7_keysAcceptedBy 19 = .ok (.if_icmp .ge 33, 3) := by decide +kernel
theorem dX7_keysAcceptedBy_22 : decode cX7_keysAcceptedBy 22 = .ok (.aload_n 0, 1) := by decide +kernel
theorem dX7_keysAcceptedBy_23 : decode cX7_keysAcceptedBy 23 = .ok (.getfield 21, 3) := by decide +kernel
theorem dX7_keysAcceptedBy_26 : decode cX7_keysAcceptedBy 26 = .ok (.iload_n 1, 1) := by decide +kernel
theorem dX7_keysAcceptedBy_27 : decode cX7_keysAcceptedBy 27 = .ok (.iload_n 3, 1) := by decide +kernel
theorem dX7_keysAcceptedBy_28 : decode cX7_keysAcceptedBy 28 = .ok (.aload_n 0, 1) := by decide +kernel
theorem dX7_keysAcceptedBy_29 : decode cX7_keysAcceptedBy 29 = .ok (.iload_n 3, 1) := by decide +kernel
theorem dX7_keysAcceptedBy_30 : decode cX7_keysAcceptedBy 30 = .ok (.iload 4, 2) := by decide +kernel
theorem dX7_keysAcceptedBy_32 : decode cX7_keysAcceptedBy 32 = .ok (.invokevirtual 93, 3) := by decide +kernel
theorem dX7_keysAcceptedBy_35 : decode cX7_keysAcceptedBy 35 = .ok (.bipush 8, 2) := by decide +kernel
theorem dX7_keysAcceptedBy_37 : decode cX7_keysAcceptedBy 37 = .ok (.invokevirtual 95, 3) := by decide +kernel
theorem dX7_keysAcceptedBy_40 : decode cX7_keysAcceptedBy 40 = .ok (.ifCond .eq 6, 3) := by decide +kernel
theorem dX7_keysAcceptedBy_43 : decode cX7_keysAcceptedBy 43 = .ok (.iinc 2 1, 3) := by decide +kernel
theorem dX7_keysAcceptedBy_46 : decode cX7_keysAcceptedBy 46 = .ok (.iinc 4 1, 3) := by decide +kernel
theorem dX7_keysAcceptedBy_49 : decode cX7_keysAcceptedBy 49 = .ok (.goto (-34), 3) := by decide +kernel
theorem dX7_keysAcceptedBy_52 : decode cX7_keysAcceptedBy 52 = .ok (.iinc 3 1, 3) := by decide +kernel
theorem dX7_keysAcceptedBy_55 : decode cX7_keysAcceptedBy 55 = .ok (.goto (-51), 3) := by decide +kernel
theorem dX7_keysAcceptedBy_58 : decode cX7_keysAcceptedBy 58 = .ok (.iload_n 2, 1) := by decide +kernel
theorem dX7_keysAcceptedBy_59 : decode cX7_keysAcceptedBy 59 = .ok (.ireturn, 1) := by decide +kernel
set_option maxRecDepth 20000 in
theorem ggX7_acceptingDevices_X7_codeOf : GoodIn wsX7_acceptingDevices wsX7_codeOf := goodIn_r _ [7, 8, 9, 10, 11, 6, 12, 13, 14, 15, 16, 17, 18, 19, 20, 21, 22, 23, 24, 25, 26, 27, 28, 29, 58, 59, 60, 61, 62, 63, 64, 65, 66, 67, 68, 69, 70] (by decide +kernel) (by decide +kernel)
set_option maxRecDepth 20000 in
theorem gX7_acceptingDevices_X7_codeOf : GoodIn wsX7_acceptingDevices (wsV RX7 93 RX7 yX7_codeOf wsX7_codeOf) := goodIn_app (goodIn_of _ (by decide +kernel)) ggX7_acceptingDevices_X7_codeOf
set_option maxRecDepth 20000 in
theorem ggX7_acceptingDevices_X0_accepting : GoodIn wsX7_acceptingDevices wsX0_accepting := goodIn_r _ [34, 35, 36, 37, 38, 33, 39, 40, 41, 42, 43, 44, 45, 46, 47, 48, 49, 50, 51, 52, 53, 54, 55, 56, 57, 71, 72, 73, 74, 75] (by decide +kernel) (by decide +kernel)
set_option maxRecDepth 20000 in
theorem gX7_acceptingDevices_X0_accepting : GoodIn wsX7_acceptingDevices (wsV RX7 99 RX0 yX0_accepting wsX0_accepting) := goodIn_app (goodIn_of _ (by decide +kernel)) ggX7_acceptingDevices_X0_accepting
theorem dX7_acceptingDevices_0 : decode cX7_acceptingDevices 0 = .ok (.aload_n 0, 1) := by decide +kernel
theorem dX7_acceptingDevices_1 : decode cX7_acceptingDevices 1 = .ok (.getfield 21, 3) := by decide +kernel
theorem dX7_acceptingDevices_4 : decode cX7_acceptingDevices 4 = .ok (.iload_n 1, 1) := by decide +kernel
theorem dX7_acceptingDevices_5 : decode cX7_acceptingDevices 5 = .ok (.aload_n 0, 1) := by decide +kernel
theorem dX7_acceptingDevices_6 : decode cX7_acceptingDevices 6 = .ok (.iload_n 1, 1) := by decide +kernel
theorem dX7_acceptingDevices_7 : decode cX7_acceptingDevices 7 = .ok (.iload_n 2, 1) := by decide +kernel
theorem dX7_acceptingDevices_8 : decode cX7_acceptingDevices 8 = .ok (.invokevirtual 93, 3) := by decide +kernel
theorem dX7_acceptingDevices_11 : decode cX7_acceptingDevices 11 = .ok (.aload_n 0, 1) := by decide +kernel
theorem dX7_acceptingDevices_12 : decode cX7_acceptingDevices 12 = .ok (.getfield 49, 3) := by decide +kernel
theorem dX7_acceptingDevices_15 : decode cX7_acceptingDevices 15 = .ok (.invokevirtual 99, 3) := by decide +kernel
theorem dX7_acceptingDevices_18 : decode cX7_acceptingDevices 18 = .ok (.ireturn, 1) := by decide +kernel
set_option maxRecDepth 20000 in
theorem ggX7_enterCode_X4_add : GoodIn wsX7_enterCode wsX4_add := goodIn_r _ [6, 7, 8, 9, 10, 11, 12, 13, 14, 15, 5, 16, 35, 36, 37, 38, 39, 40] (by decide +kernel) (by decide +kernel)
set_option maxRecDepth 20000 in
theorem gX7_enterCode_X4_add : GoodIn wsX7_enterCode (wsV RX7 103 RX4 yX4_add wsX4_add) := goodIn_app (goodIn_of _ (by decide +kernel)) ggX7_enterCode_X4_add
set_option maxRecDepth 20000 in
theorem ggX7_enterCode_X7_giveRecord : GoodIn wsX7_enterCode wsX7_giveRecord := goodIn_r _ [21, 22, 23, 24, 25, 20, 26, 27, 28, 29, 30, 31, 32, 33, 34] (by decide +kernel) (by decide +kernel)
set_option maxRecDepth 20000 in
theorem gX7_enterCode_X7_giveRecord : GoodIn wsX7_enterCode (wsV RX7 107 RX7 yX7_giveRecord wsX7_giveRecord) := goodIn_app (goodIn_of _ (by decide +kernel)) ggX7_enterCode_X7_giveRecord
theorem dX7_enterCode_0 : decode cX7_enterCode 0 = .ok (.aload_n 0, 1) := by decide +kernel
theorem dX7_enterCode_1 : decode cX7_enterCode 1 = .ok (.getfield 12, 3) := by decide +kernel
theorem dX7_enterCode_4 : decode cX7_enterCode 4 = .ok (.iload_n 3, 1) := by decide +kernel
theorem dX7_enterCode_5 : decode cX7_enterCode 5 = .ok (.iload_n 1, 1) := by decide +kernel
theorem dX7_enterCode_6 : decode cX7_enterCode 6 = .ok (.iload_n 2, 1) := by decide +kernel
theorem dX7_enterCode_7 : decode cX7_enterCode 7 = .ok (.bipush (-9), 2) := by decide +kernel
theorem dX7_enterCode_9 : decode cX7_enterCode 9 = .ok (.bipush (-9), 2) := by decide +kernel
theorem dX7_enterCode_11 : decode cX7_enterCode 11 = .ok (.invokevirtual 103, 3) := by decide +kernel
theorem dX7_enterCode_14 : decode cX7_enterCode 14 = .ok (.istore 4, 2) := by decide +kernel
theorem dX7_enterCode_16 : decode cX7_enterCode 16 = .ok (.aload_n 0, 1) := by decide +kernel
theorem dX7_enterCode_17 : decode cX7_enterCode 17 = .ok (.iload_n 1, 1) := by decide +kernel
theorem dX7_enterCode_18 : decode cX7_enterCode 18 = .ok (.iload_n 2, 1) := by decide +kernel
theorem dX7_enterCode_19 : decode cX7_enterCode 19 = .ok (.iload 4, 2) := by decide +kernel
theorem dX7_enterCode_21 : decode cX7_enterCode 21 = .ok (.invokevirtual 107, 3) := by decide +kernel
theorem dX7_enterCode_24 : decode cX7_enterCode 24 = .ok (.iload 4, 2) := by decide +kernel
theorem dX7_enterCode_26 : decode cX7_enterCode 26 = .ok (.ireturn, 1) := by decide +kernel
set_option maxRecDepth 20000 in
theorem ggX7_canTeach_X7_hasCode : GoodIn wsX7_canTeach wsX7_hasCode := goodIn_r _ [6, 7, 8, 9, 5, 10, 11, 12, 13, 14, 15, 16, 23, 24, 25, 26, 27, 28, 29] (by decide +kernel) (by decide +kernel)
set_option maxRecDepth 20000 in
theorem gX7_canTeach_X7_hasCode : GoodIn wsX7_canTeach (wsV RX7 111 RX7 yX7_hasCode wsX7_hasCode) := goodIn_app (goodIn_of _ (by decide +kernel)) ggX7_canTeach_X7_hasCode
set_option maxRecDepth 20000 in
theorem ggX7_canTeach_X4_hasRoom : GoodIn wsX7_canTeach wsX4_hasRoom := goodIn_r _ [21, 22, 30, 31, 32, 33, 34, 35] (by decide +kernel) (by decide +kernel)
set_option maxRecDepth 20000 in
theorem gX7_canTeach_X4_hasRoom : GoodIn wsX7_canTeach (wsV RX7 114 RX4 yX4_hasRoom wsX4_hasRoom) := goodIn_app (goodIn_of _ (by decide +kernel)) ggX7_canTeach_X4_hasRoom
theorem dX7_canTeach_0 : decode cX7_canTeach 0 = .ok (.aload_n 0, 1) := by decide +kernel
theorem dX7_canTeach_1 : decode cX7_canTeach 1 = .ok (.iload_n 1, 1) := by decide +kernel
theorem dX7_canTeach_2 : decode cX7_canTeach 2 = .ok (.iload_n 2, 1) := by decide +kernel
theorem dX7_canTeach_3 : decode cX7_canTeach 3 = .ok (.invokevirtual 111, 3) := by decide +kernel
theorem dX7_canTeach_6 : decode cX7_canTeach 6 = .ok (.ifCond .eq 17, 3) := by decide +kernel
theorem dX7_canTeach_9 : decode cX7_canTeach 9 = .ok (.aload_n 0, 1) := by decide +kernel
theorem dX7_canTeach_10 : decode cX7_canTeach 10 = .ok (.getfield 12, 3) := by decide +kernel
theorem dX7_canTeach_13 : decode cX7_canTeach 13 = .ok (.invokevirtual 114, 3) := by decide +kernel
theorem dX7_canTeach_16 : decode cX7_canTeach 16 = .ok (.ifCond .eq 7, 3) := by decide +kernel
theorem dX7_canTeach_19 : decode cX7_canTeach 19 = .ok (.iconst 1, 1) := by decide +kernel
theorem dX7_canTeach_20 : decode cX7_canTeach 20 = .ok (.goto 4, 3) := by decide +kernel
theorem dX7_canTeach_23 : decode cX7_canTeach 23 = .ok (.iconst 0, 1) := by decide +kernel
theorem dX7_canTeach_24 : decode cX7_canTeach 24 = .ok (.ireturn, 1) := by decide +kernel
set_option maxRecDepth 20000 in
theorem ggX7_teachKey_X2_next : GoodIn wsX7_teachKey wsX2_next := goodIn_r _ [11, 12, 13] (by decide +kernel) (by decide +kernel)
set_option maxRecDepth 20000 in
theorem gX7_teachKey_X2_next : GoodIn wsX7_teachKey (va_wsS RX7 118 yX2_next wsX2_next) := goodIn_app (goodIn_of _ (by decide +kernel)) ggX7_teachKey_X2_next
set_option maxRecDepth 20000 in
theorem ggX7_teachKey_X7_recordOf : GoodIn wsX7_teachKey wsX7_recordOf := goodIn_r _ [18, 19, 20, 21, 22, 17, 23, 24, 58, 59, 60, 61, 62, 63, 64] (by decide +kernel) (by decide +kernel)
set_option maxRecDepth 20000 in
theorem gX7_teachKey_X7_recordOf : GoodIn wsX7_teachKey (wsV RX7 69 RX7 yX7_recordOf wsX7_recordOf) := goodIn_app (goodIn_of _ (by decide +kernel)) ggX7_teachKey_X7_recordOf
set_option maxRecDepth 20000 in
theorem ggX7_teachKey_X2_wrongBit : GoodIn wsX7_teachKey wsX2_wrongBit := goodIn_r _ [27] (by decide +kernel) (by decide +kernel)
set_option maxRecDepth 20000 in
theorem gX7_teachKey_X2_wrongBit : GoodIn wsX7_teachKey (va_wsS RX7 129 yX2_wrongBit wsX2_wrongBit) := goodIn_app (goodIn_of _ (by decide +kernel)) ggX7_teachKey_X2_wrongBit
set_option maxRecDepth 20000 in
theorem ggX7_teachKey_X4_codeOf : GoodIn wsX7_teachKey wsX4_codeOf := goodIn_r _ [32, 33, 34, 35, 36, 31, 37, 38, 65, 66, 67, 68, 69, 70] (by decide +kernel) (by decide +kernel)
set_option maxRecDepth 20000 in
theorem gX7_teachKey_X4_codeOf : GoodIn wsX7_teachKey (wsV RX7 77 RX4 yX4_codeOf wsX4_codeOf) := goodIn_app (goodIn_of _ (by decide +kernel)) ggX7_teachKey_X4_codeOf
set_option maxRecDepth 20000 in
theorem ggX7_teachKey_X2_changed : GoodIn wsX7_teachKey wsX2_changed := goodIn_r _ [41] (by decide +kernel) (by decide +kernel)
set_option maxRecDepth 20000 in
theorem gX7_teachKey_X2_changed : GoodIn wsX7_teachKey (va_wsS RX7 133 yX2_changed wsX2_changed) := goodIn_app (goodIn_of _ (by decide +kernel)) ggX7_teachKey_X2_changed
set_option maxRecDepth 20000 in
theorem ggX7_teachKey_X4_add : GoodIn wsX7_teachKey wsX4_add := goodIn_r _ [45, 38, 33, 46, 47, 48, 49, 50, 51, 52, 31, 53, 65, 66, 67, 68, 69, 70] (by decide +kernel) (by decide +kernel)
set_option maxRecDepth 20000 in
theorem gX7_teachKey_X4_add : GoodIn wsX7_teachKey (wsV RX7 103 RX4 yX4_add wsX4_add) := goodIn_app (goodIn_of _ (by decide +kernel)) ggX7_teachKey_X4_add
set_option maxRecDepth 20000 in
theorem ggX7_teachKey_X7_giveRecord : GoodIn wsX7_teachKey wsX7_giveRecord := goodIn_r _ [57, 19, 20, 21, 22, 17, 23, 24, 58, 59, 60, 61, 62, 63, 64] (by decide +kernel) (by decide +kernel)
set_option maxRecDepth 20000 in
theorem gX7_teachKey_X7_giveRecord : GoodIn wsX7_teachKey (wsV RX7 107 RX7 yX7_giveRecord wsX7_giveRecord) := goodIn_app (goodIn_of _ (by decide +kernel)) ggX7_teachKey_X7_giveRecord
theorem dX7_teachKey_0 : decode cX7_teachKey 0 = .ok (.aload_n 0, 1) := by decide +kernel
theorem dX7_teachKey_1 : decode cX7_teachKey 1 = .ok (.aload_n 0, 1) := by decide +kernel
theorem dX7_teachKey_2 : decode cX7_teachKey 2 = .ok (.getfield 52, 3) := by decide +kernel
theorem dX7_teachKey_5 : decode cX7_teachKey 5 = .ok (.invokestatic 118, 3) := by decide +kernel
theorem dX7_teachKey_8 : decode cX7_teachKey 8 = .ok (.putfield 52, 3) := by decide +kernel
theorem dX7_teachKey_11 : decode cX7_teachKey 11 = .ok (.aload_n 0, 1) := by decide +kernel
theorem dX7_teachKey_12 : decode cX7_teachKey 12 = .ok (.iload_n 1, 1) := by decide +kernel
theorem dX7_teachKey_13 : decode cX7_teachKey 13 = .ok (.iload_n 2, 1) := by decide +kernel
theorem dX7_teachKey_14 : decode cX7_teachKey 14 = .ok (.invokevirtual 69, 3) := by decide +kernel
theorem dX7_teachKey_17 : decode cX7_teachKey 17 = .ok (.istore 5, 2) := by decide +kernel
theorem dX7_teachKey_19 : decode cX7_teachKey 19 = .ok (.aload_n 0, 1) := by decide +kernel
theorem dX7_teachKey_20 : decode cX7_teachKey 20 = .ok (.getfield 52, 3) := by decide +kernel
theorem dX7_teachKey_23 : decode cX7_teachKey 23 = .ok (.aload_n 0, 1) := by decide +kernel
theorem dX7_teachKey_24 : decode cX7_teachKey 24 = .ok (.getfield 46, 3) := by decide +kernel
theorem dX7_teachKey_27 : decode cX7_teachKey 27 = .ok (.iload_n 1, 1) := by decide +kernel
theorem dX7_teachKey_28 : decode cX7_teachKey 28 = .ok (.iload_n 3, 1) := by decide +kernel
theorem dX7_teachKey_29 : decode cX7_teachKey 29 = .ok (.isub, 1) := by decide +kernel
theorem dX7_teachKey_30 : decode cX7_teachKey 30 = .ok (.invokestatic 124, 3) := by decide +kernel
theorem dX7_teachKey_33 : decode cX7_teachKey 33 = .ok (.invokestatic 129, 3) := by decide +kernel
theorem dX7_teachKey_36 : decode cX7_teachKey 36 = .ok (.istore 6, 2) := by decide +kernel
theorem dX7_teachKey_38 : decode cX7_teachKey 38 = .ok (.aload_n 0, 1) := by decide +kernel
theorem dX7_teachKey_39 : decode cX7_teachKey 39 = .ok (.getfield 12, 3) := by decide +kernel
theorem dX7_teachKey_42 : decode cX7_teachKey 42 = .ok (.iload 5, 2) := by decide +kernel
theorem dX7_teachKey_44 : decode cX7_teachKey 44 = .ok (.invokevirtual 77, 3) := by decide +kernel
theorem dX7_teachKey_47 : decode cX7_teachKey 47 = .ok (.iload 6, 2) := by decide +kernel
theorem dX7_teachKey_49 : decode cX7_teachKey 49 = .ok (.invokestatic 133, 3) := by decide +kernel
theorem dX7_teachKey_52 : decode cX7_teachKey 52 = .ok (.istore 7, 2) := by decide +kernel
theorem dX7_teachKey_54 : decode cX7_teachKey 54 = .ok (.aload_n 0, 1) := by decide +kernel
theorem dX7_teachKey_55 : decode cX7_teachKey 55 = .ok (.iload_n 3, 1) := by decide +kernel
theorem dX7_teachKey_56 : decode cX7_teachKey 56 = .ok (.iload 4, 2) := by decide +kernel
theorem dX7_teachKey_58 : decode cX7_teachKey 58 = .ok (.aload_n 0, 1) := by decide +kernel
theorem dX7_teachKey_59 : decode cX7_teachKey 59 = .ok (.getfield 12, 3) := by decide +kernel
theorem dX7_teachKey_62 : decode cX7_teachKey 62 = .ok (.iload 7, 2) := by decide +kernel
theorem dX7_teachKey_64 : decode cX7_teachKey 64 = .ok (.iload_n 3, 1) := by decide +kernel
theorem dX7_teachKey_65 : decode cX7_teachKey 65 = .ok (.iload 4, 2) := by decide +kernel
theorem dX7_teachKey_67 : decode cX7_teachKey 67 = .ok (.iload 5, 2) := by decide +kernel
theorem dX7_teachKey_69 : decode cX7_teachKey 69 = .ok (.iload 6, 2) := by decide +kernel
theorem dX7_teachKey_71 : decode cX7_teachKey 71 = .ok (.invokevirtual 103, 3) := by decide +kernel
theorem dX7_teachKey_74 : decode cX7_teachKey 74 = .ok (.invokevirtual 107, 3) := by decide +kernel
theorem dX7_teachKey_77 : decode cX7_teachKey 77 = .ok (.iload 7, 2) := by decide +kernel
theorem dX7_teachKey_79 : decode cX7_teachKey 79 = .ok (.ireturn, 1) := by decide +kernel
set_option maxRecDepth 20000 in
theorem ggX7_eraseKey_X7_codeOf : GoodIn wsX7_eraseKey wsX7_codeOf := goodIn_r _ [5, 6, 7, 8, 9, 4, 10, 11, 12, 13, 14, 15, 16, 17, 18, 19, 20, 21, 22, 23, 24, 25, 26, 27, 32, 33, 34, 35, 36, 37, 38, 39, 40, 41, 42, 43, 44] (by decide +kernel) (by decide +kernel)
set_option maxRecDepth 20000 in
theorem gX7_eraseKey_X7_codeOf : GoodIn wsX7_eraseKey (wsV RX7 93 RX7 yX7_codeOf wsX7_codeOf) := goodIn_app (goodIn_of _ (by decide +kernel)) ggX7_eraseKey_X7_codeOf
set_option maxRecDepth 20000 in
theorem ggX7_eraseKey_X7_giveRecord : GoodIn wsX7_eraseKey wsX7_giveRecord := goodIn_r _ [31, 11, 12, 13, 14, 4, 15, 16, 32, 33, 34, 35, 36, 37, 38] (by decide +kernel) (by decide +kernel)
set_option maxRecDepth 20000 in
theorem gX7_eraseKey_X7_giveRecord : GoodIn wsX7_eraseKey (wsV RX7 107 RX7 yX7_giveRecord wsX7_giveRecord) := goodIn_app (goodIn_of _ (by decide +kernel)) ggX7_eraseKey_X7_giveRecord
theorem dX7_eraseKey_0 : decode cX7_eraseKey 0 = .ok (.aload_n 0, 1) := by decide +kernel
theorem dX7_eraseKey_1 : decode cX7_eraseKey 1 = .ok (.iload_n 1, 1) := by decide +kernel
theorem dX7_eraseKey_2 : decode cX7_eraseKey 2 = .ok (.iload_n 2, 1) := by decide +kernel
theorem dX7_eraseKey_3 : decode cX7_eraseKey 3 = .ok (.invokevirtual 93, 3) := by decide +kernel
theorem dX7_eraseKey_6 : decode cX7_eraseKey 6 = .ok (.istore_n 3, 1) := by decide +kernel
theorem dX7_eraseKey_7 : decode cX7_eraseKey 7 = .ok (.aload_n 0, 1) := by decide +kernel
theorem dX7_eraseKey_8 : decode cX7_eraseKey 8 = .ok (.iload_n 1, 1) := by decide +kernel
theorem dX7_eraseKey_9 : decode cX7_eraseKey 9 = .ok (.iload_n 2, 1) := by decide +kernel
theorem dX7_eraseKey_10 : decode cX7_eraseKey 10 = .ok (.bipush (-9), 2) := by decide +kernel
theorem dX7_eraseKey_12 : decode cX7_eraseKey 12 = .ok (.invokevirtual 107, 3) := by decide +kernel
theorem dX7_eraseKey_15 : decode cX7_eraseKey 15 = .ok (.iload_n 3, 1) := by decide +kernel
theorem dX7_eraseKey_16 : decode cX7_eraseKey 16 = .ok (.ireturn, 1) := by decide +kernel
set_option maxRecDepth 20000 in
theorem ggX7_pressKey_X7_codeOf : GoodIn wsX7_pressKey wsX7_codeOf := goodIn_r _ [7, 8, 9, 10, 11, 6, 12, 13, 14, 15, 16, 17, 18, 19, 20, 21, 22, 23, 24, 25, 26, 27, 28, 29, 63, 64, 65, 66, 67, 68, 69, 70, 71, 72, 73, 74, 75] (by decide +kernel) (by decide +kernel)
set_option maxRecDepth 20000 in
theorem gX7_pressKey_X7_codeOf : GoodIn wsX7_pressKey (wsV RX7 93 RX7 yX7_codeOf wsX7_codeOf) := goodIn_app (goodIn_of _ (by decide +kernel)) ggX7_pressKey_X7_codeOf
set_option maxRecDepth 20000 in
theorem ggX7_pressKey_X0_accepting : GoodIn wsX7_pressKey wsX0_accepting := goodIn_r _ [34, 35, 36, 37, 38, 33, 39, 40, 41, 42, 43, 44, 45, 46, 47, 48, 49, 50, 51, 52, 53, 54, 55, 56, 57, 76, 77, 78, 79, 80] (by decide +kernel) (by decide +kernel)
set_option maxRecDepth 20000 in
theorem gX7_pressKey_X0_accepting : GoodIn wsX7_pressKey (wsV RX7 99 RX0 yX0_accepting wsX0_accepting) := goodIn_app (goodIn_of _ (by decide +kernel)) ggX7_pressKey_X0_accepting
set_option maxRecDepth 20000 in
theorem ggX7_pressKey_X0_switchOver : GoodIn wsX7_pressKey wsX0_switchOver := goodIn_r _ [61, 62, 76, 77, 78, 79, 80] (by decide +kernel) (by decide +kernel)
set_option maxRecDepth 20000 in
theorem gX7_pressKey_X0_switchOver : GoodIn wsX7_pressKey (wsV RX7 136 RX0 yX0_switchOver wsX0_switchOver) := goodIn_app (goodIn_of _ (by decide +kernel)) ggX7_pressKey_X0_switchOver
theorem dX7_pressKey_0 : decode cX7_pressKey 0 = .ok (.aload_n 0, 1) := by decide +kernel
theorem dX7_pressKey_1 : decode cX7_pressKey 1 = .ok (.getfield 21, 3) := by decide +kernel
theorem dX7_pressKey_4 : decode cX7_pressKey 4 = .ok (.iload_n 1, 1) := by decide +kernel
theorem dX7_pressKey_5 : decode cX7_pressKey 5 = .ok (.aload_n 0, 1) := by decide +kernel
theorem dX7_pressKey_6 : decode cX7_pressKey 6 = .ok (.iload_n 1, 1) := by decide +kernel
theorem dX7_pressKey_7 : decode cX7_pressKey 7 = .ok (.iload_n 2, 1) := by decide +kernel
theorem dX7_pressKey_8 : decode cX7_pressKey 8 = .ok (.invokevirtual 93, 3) := by decide +kernel
theorem dX7_pressKey_11 : decode cX7_pressKey 11 = .ok (.aload_n 0, 1) := by decide +kernel
theorem dX7_pressKey_12 : decode cX7_pressKey 12 = .ok (.getfield 49, 3) := by decide +kernel
theorem dX7_pressKey_15 : decode cX7_pressKey 15 = .ok (.invokevirtual 99, 3) := by decide +kernel
theorem dX7_pressKey_18 : decode cX7_pressKey 18 = .ok (.istore_n 3, 1) := by decide +kernel
theorem dX7_pressKey_19 : decode cX7_pressKey 19 = .ok (.aload_n 0, 1) := by decide +kernel
theorem dX7_pressKey_20 : decode cX7_pressKey 20 = .ok (.getfield 21, 3) := by decide +kernel
theorem dX7_pressKey_23 : decode cX7_pressKey 23 = .ok (.iload_n 3, 1) := by decide +kernel
theorem dX7_pressKey_24 : decode cX7_pressKey 24 = .ok (.invokevirtual 136, 3) := by decide +kernel
theorem dX7_pressKey_27 : decode cX7_pressKey 27 = .ok (.iload_n 3, 1) := by decide +kernel
theorem dX7_pressKey_28 : decode cX7_pressKey 28 = .ok (.ireturn, 1) := by decide +kernel
theorem dX7_changeSetting_0 : decode cX7_changeSetting 0 = .ok (.iload_n 1, 1) := by decide +kernel
theorem dX7_changeSetting_1 : decode cX7_changeSetting 1 = .ok (.ifCond .ne 10, 3) := by decide +kernel
theorem dX7_changeSetting_4 : decode cX7_changeSetting 4 = .ok (.aload_n 0, 1) := by decide +kernel
theorem dX7_changeSetting_5 : decode cX7_changeSetting 5 = .ok (.getfield 46, 3) := by decide +kernel
theorem dX7_changeSetting_8 : decode cX7_changeSetting 8 = .ok (.goto 7, 3) := by decide +kernel
theorem dX7_changeSetting_11 : decode cX7_changeSetting 11 = .ok (.aload_n 0, 1) := by decide +kernel
theorem dX7_changeSetting_12 : decode cX7_changeSetting 12 = .ok (.getfield 49, 3) := by decide +kernel
theorem dX7_changeSetting_15 : decode cX7_changeSetting 15 = .ok (.istore_n 3, 1) := by decide +kernel
theorem dX7_changeSetting_16 : decode cX7_changeSetting 16 = .ok (.iload_n 1, 1) := by decide +kernel
theorem dX7_changeSetting_17 : decode cX7_changeSetting 17 = .ok (.ifCond .ne 11, 3) := by decide +kernel
theorem dX7_changeSetting_20 : decode cX7_changeSetting 20 = .ok (.aload_n 0, 1) := by decide +kernel
theorem dX7_changeSetting_21 : decode cX7_changeSetting 21 = .ok (.iload_n 2, 1) := by decide +kernel
theorem dX7_changeSetting_22 : decode cX7_changeSetting 22 = .ok (.putfield 46, 3) := by decide +kernel
theorem dX7_changeSetting_25 : decode cX7_changeSetting 25 = .ok (.goto 8, 3) := by decide +kernel
theorem dX7_changeSetting_28 : decode cX7_changeSetting 28 = .ok (.aload_n 0, 1) := by decide +kernel
theorem dX7_changeSetting_29 : decode cX7_changeSetting 29 = .ok (.iload_n 2, 1) := by decide +kernel
theorem dX7_changeSetting_30 : decode cX7_changeSetting 30 = .ok (.putfield 49, 3) := by decide +kernel
theorem dX7_changeSetting_33 : decode cX7_changeSetting 33 = .ok (.iload_n 3, 1) := by decide +kernel
theorem dX7_changeSetting_34 : decode cX7_changeSetting 34 = .ok (.ireturn, 1) := by decide +kernel
set_option maxRecDepth 20000 in
theorem ggX7_codeIfTaught_X7_hasCode : GoodIn wsX7_codeIfTaught wsX7_hasCode := goodIn_r _ [11, 12, 13, 14, 10, 15, 16, 17, 18, 19, 20, 21, 53, 54, 55, 56, 57, 58, 59] (by decide +kernel) (by decide +kernel)
set_option maxRecDepth 20000 in
theorem gX7_codeIfTaught_X7_hasCode : GoodIn wsX7_codeIfTaught (wsV RX7 111 RX7 yX7_hasCode wsX7_hasCode) := goodIn_app (goodIn_of _ (by decide +kernel)) ggX7_codeIfTaught_X7_hasCode
set_option maxRecDepth 20000 in
theorem ggX7_codeIfTaught_X7_codeOf : GoodIn wsX7_codeIfTaught wsX7_codeOf := goodIn_r _ [25, 26, 12, 13, 14, 10, 15, 16, 17, 18, 19, 20, 21, 27, 28, 29, 30, 31, 32, 33, 34, 35, 36, 37, 53, 54, 55, 56, 57, 58, 59, 60, 61, 62, 63, 64, 65] (by decide +kernel) (by decide +kernel)
set_option maxRecDepth 20000 in
theorem gX7_codeIfTaught_X7_codeOf : GoodIn wsX7_codeIfTaught (wsV RX7 93 RX7 yX7_codeOf wsX7_codeOf) := goodIn_app (goodIn_of _ (by decide +kernel)) ggX7_codeIfTaught_X7_codeOf
set_option maxRecDepth 20000 in
theorem ggX7_codeIfTaught_X2_next : GoodIn wsX7_codeIfTaught wsX2_next := goodIn_r _ [41, 42, 43] (by decide +kernel) (by decide +kernel)
set_option maxRecDepth 20000 in
theorem gX7_codeIfTaught_X2_next : GoodIn wsX7_codeIfTaught (va_wsS RX7 118 yX2_next wsX2_next) := goodIn_app (goodIn_of _ (by decide +kernel)) ggX7_codeIfTaught_X2_next
set_option maxRecDepth 20000 in
theorem ggX7_codeIfTaught_X2_learned : GoodIn wsX7_codeIfTaught wsX2_learned := goodIn_r _ [46, 47, 48, 40, 49, 50, 51, 52] (by decide +kernel) (by decide +kernel)
set_option maxRecDepth 20000 in
theorem gX7_codeIfTaught_X2_learned : GoodIn wsX7_codeIfTaught (va_wsS RX7 139 yX2_learned wsX2_learned) := goodIn_app (goodIn_of _ (by decide +kernel)) ggX7_codeIfTaught_X2_learned
theorem dX7_codeIfTaught_0 : decode cX7_codeIfTaught 0 = .ok (.aload_n 0, 1) := by decide +kernel
theorem dX7_codeIfTaught_1 : decode cX7_codeIfTaught 1 = .ok (.iload_n 1, 1) := by decide +kernel
theorem dX7_codeIfTaught_2 : decode cX7_codeIfTaught 2 = .ok (.iload_n 2, 1) := by decide +kernel
theorem dX7_codeIfTaught_3 : decode cX7_codeIfTaught 3 = .ok (.invokevirtual 111, 3) := by decide +kernel
theorem dX7_codeIfTaught_6 : decode cX7_codeIfTaught 6 = .ok (.ifCond .ne 6, 3) := by decide +kernel
theorem dX7_codeIfTaught_9 : decode cX7_codeIfTaught 9 = .ok (.bipush (-9), 2) := by decide +kernel
theorem dX7_codeIfTaught_11 : decode cX7_codeIfTaught 11 = .ok (.ireturn, 1) := by decide +kernel
theorem dX7_codeIfTaught_12 : decode cX7_codeIfTaught 12 = .ok (.aload_n 0, 1) := by decide +kernel
theorem dX7_codeIfTaught_13 : decode cX7_codeIfTaught 13 = .ok (.iload_n 1, 1) := by decide +kernel
theorem dX7_codeIfTaught_14 : decode cX7_codeIfTaught 14 = .ok (.iload_n 2, 1) := by decide +kernel
theorem dX7_codeIfTaught_15 : decode cX7_codeIfTaught 15 = .ok (.invokevirtual 93, 3) := by decide +kernel
theorem dX7_codeIfTaught_18 : decode cX7_codeIfTaught 18 = .ok (.aload_n 0, 1) := by decide +kernel
theorem dX7_codeIfTaught_19 : decode cX7_codeIfTaught 19 = .ok (.getfield 52, 3) := by decide +kernel
theorem dX7_codeIfTaught_22 : decode cX7_codeIfTaught 22 = .ok (.invokestatic 118, 3) := by decide +kernel
theorem dX7_codeIfTaught_25 : decode cX7_codeIfTaught 25 = .ok (.aload_n 0, 1) := by decide +kernel
theorem dX7_codeIfTaught_26 : decode cX7_codeIfTaught 26 = .ok (.getfield 46, 3) := by decide +kernel
theorem dX7_codeIfTaught_29 : decode cX7_codeIfTaught 29 = .ok (.iload_n 1, 1) := by decide +kernel
theorem dX7_codeIfTaught_30 : decode cX7_codeIfTaught 30 = .ok (.iload_n 3, 1) := by decide +kernel
theorem dX7_codeIfTaught_31 : decode cX7_codeIfTaught 31 = .ok (.isub, 1) := by decide +kernel
theorem dX7_codeIfTaught_32 : decode cX7_codeIfTaught 32 = .ok (.invokestatic 124, 3) := by decide +kernel
theorem dX7_codeIfTaught_35 : decode cX7_codeIfTaught 35 = .ok (.invokestatic 139, 3) := by decide +kernel
theorem dX7_codeIfTaught_38 : decode cX7_codeIfTaught 38 = .ok (.ireturn, 1) := by decide +kernel
set_option maxRecDepth 20000 in
theorem ggX7_codeIfHanded_X7_codeOf : GoodIn wsX7_codeIfHanded wsX7_codeOf := goodIn_r _ [11, 12, 13, 14, 15, 10, 16, 17, 18, 19, 20, 21, 22, 23, 24, 25, 26, 27, 28, 29, 30, 31, 32, 33, 49, 50, 51, 52, 53, 54, 55, 56, 57, 58, 59, 60, 61] (by decide +kernel) (by decide +kernel)
set_option maxRecDepth 20000 in
theorem gX7_codeIfHanded_X7_codeOf : GoodIn wsX7_codeIfHanded (wsV RX7 93 RX7 yX7_codeOf wsX7_codeOf) := goodIn_app (goodIn_of _ (by decide +kernel)) ggX7_codeIfHanded_X7_codeOf
set_option maxRecDepth 20000 in
theorem ggX7_codeIfHanded_X2_next : GoodIn wsX7_codeIfHanded wsX2_next := goodIn_r _ [37, 38, 39] (by decide +kernel) (by decide +kernel)
set_option maxRecDepth 20000 in
theorem gX7_codeIfHanded_X2_next : GoodIn wsX7_codeIfHanded (va_wsS RX7 118 yX2_next wsX2_next) := goodIn_app (goodIn_of _ (by decide +kernel)) ggX7_codeIfHanded_X2_next
set_option maxRecDepth 20000 in
theorem ggX7_codeIfHanded_X2_learned : GoodIn wsX7_codeIfHanded wsX2_learned := goodIn_r _ [42, 43, 44, 36, 45, 46, 47, 48] (by decide +kernel) (by decide +kernel)
set_option maxRecDepth 20000 in
theorem gX7_codeIfHanded_X2_learned : GoodIn wsX7_codeIfHanded (va_wsS RX7 139 yX2_learned wsX2_learned) := goodIn_app (goodIn_of _ (by decide +kernel)) ggX7_codeIfHanded_X2_learned
theorem dX7_codeIfHanded_0 : decode cX7_codeIfHanded 0 = .ok (.aload_n 0, 1) := by decide +kernel
theorem dX7_codeIfHanded_1 : decode cX7_codeIfHanded 1 = .ok (.iload_n 1, 1) := by decide +kernel
theorem dX7_codeIfHanded_2 : decode cX7_codeIfHanded 2 = .ok (.iload_n 2, 1) := by decide +kernel
theorem dX7_codeIfHanded_3 : decode cX7_codeIfHanded 3 = .ok (.invokevirtual 93, 3) := by decide +kernel
theorem dX7_codeIfHanded_6 : decode cX7_codeIfHanded 6 = .ok (.istore 4, 2) := by decide +kernel
theorem dX7_codeIfHanded_8 : decode cX7_codeIfHanded 8 = .ok (.iload 4, 2) := by decide +kernel
theorem dX7_codeIfHanded_10 : decode cX7_codeIfHanded 10 = .ok (.bipush (-9), 2) := by decide +kernel
theorem dX7_codeIfHanded_12 : decode cX7_codeIfHanded 12 = .ok (.if_icmp .ne 6, 3) := by decide +kernel
theorem dX7_codeIfHanded_15 : decode cX7_codeIfHanded 15 = .ok (.bipush (-9), 2) := by decide +kernel
theorem dX7_codeIfHanded_17 : decode cX7_codeIfHanded 17 = .ok (.ireturn, 1) := by decide +kernel
theorem dX7_codeIfHanded_18 : decode cX7_codeIfHanded 18 = .ok (.aload_n 0, 1) := by decide +kernel
theorem dX7_codeIfHanded_19 : decode cX7_codeIfHanded 19 = .ok (.getfield 52, 3) := by decide +kernel
theorem dX7_codeIfHanded_22 : decode cX7_codeIfHanded 22 = .ok (.lstore 5, 2) := by decide +kernel
theorem dX7_codeIfHanded_24 : decode cX7_codeIfHanded 24 = .ok (.iload_n 1, 1) := by decide +kernel
theorem dX7_codeIfHanded_25 : decode cX7_codeIfHanded 25 = .ok (.iload_n 3, 1) := by decide +kernel
theorem dX7_codeIfHanded_26 : decode cX7_codeIfHanded 26 = .ok (.isub, 1) := by decide +kernel
theorem dX7_codeIfHanded_27 : decode cX7_codeIfHanded 27 = .ok (.invokestatic 124, 3) := by decide +kernel
theorem dX7_codeIfHanded_30 : decode cX7_codeIfHanded 30 = .ok (.istore 7, 2) := by decide +kernel
theorem dX7_codeIfHanded_32 : decode cX7_codeIfHanded 32 = .ok (.iconst 0, 1) := by decide +kernel
theorem dX7_codeIfHanded_33 : decode cX7_codeIfHanded 33 = .ok (.istore 8, 2) := by decide +kernel
theorem dX7_codeIfHanded_35 : decode cX7_codeIfHanded 35 = .ok (.iload 8, 2) := by decide +kernel
theorem dX7_codeIfHanded_37 : decode cX7_codeIfHanded 37 = .ok (.iload 7, 2) := by decide +kernel
theorem dX7_codeIfHanded_39 : decode cX7_codeIfHanded 39 = .ok (.if_icmp .ge 30, 3) := by decide +kernel
theorem dX7_codeIfHanded_42 : decode cX7_codeIfHanded 42 = .ok (.lload 5, 2) := by decide +kernel
theorem dX7_codeIfHanded_44 : decode cX7_codeIfHanded 44 = .ok (.invokestatic 118, 3) := by decide +kernel
theorem dX7_codeIfHanded_47 : decode cX7_codeIfHanded 47 = .ok (.lstore 5, 2) := by decide +kernel
theorem dX7_codeIfHanded_49 : decode cX7_codeIfHanded 49 = .ok (.iload 4, 2) := by decide +kernel
theorem dX7_codeIfHanded_51 : decode cX7_codeIfHanded 51 = .ok (.lload 5, 2) := by decide +kernel
theorem dX7_codeIfHanded_53 : decode cX7_codeIfHanded 53 = .ok (.aload_n 0, 1) := by decide +kernel
theorem dX7_codeIfHanded_54 : decode cX7_codeIfHanded 54 = .ok (.getfield 46, 3) := by decide +kernel
theorem dX7_codeIfHanded_57 : decode cX7_codeIfHanded 57 = .ok (.iconst 1, 1) := by decide +kernel
theorem dX7_codeIfHanded_58 : decode cX7_codeIfHanded 58 = .ok (.invokestatic 139, 3) := by decide +kernel
theorem dX7_codeIfHanded_61 : decode cX7_codeIfHanded 61 = .ok (.istore 4, 2) := by decide +kernel
theorem dX7_codeIfHanded_63 : decode cX7_codeIfHanded 63 = .ok (.iinc 8 1, 3) := by decide +kernel
theorem dX7_codeIfHanded_66 : decode cX7_codeIfHanded 66 = .ok (.goto (-31), 3) := by decide +kernel
theorem dX7_codeIfHanded_69 : decode cX7_codeIfHanded 69 = .ok (.iload 4, 2) := by decide +kernel
theorem dX7_codeIfHanded_71 : decode cX7_codeIfHanded 71 = .ok (.ireturn, 1) := by decide +kernel
theorem dX8_init_0 : decode cX8_init 0 = .ok (.aload_n 0, 1) := by decide +kernel
theorem dX8_init_1 : decode cX8_init 1 = .ok (.invokespecial 3, 3) := by decide +kernel
theorem dX8_init_4 : decode cX8_init 4 = .ok (.aload_n 0, 1) := by decide +kernel
theorem dX8_init_5 : decode cX8_init 5 = .ok (.bipush 120, 2) := by decide +kernel
theorem dX8_init_7 : decode cX8_init 7 = .ok (.newarray .char, 2) := by decide +kernel
theorem dX8_init_9 : decode cX8_init 9 = .ok (.putfield 9, 3) := by decide +kernel
theorem dX8_init_12 : decode cX8_init 12 = .ok (.return_, 1) := by decide +kernel
theorem dX8_length_0 : decode cX8_length 0 = .ok (.aload_n 0, 1) := by decide +kernel
theorem dX8_length_1 : decode cX8_length 1 = .ok (.getfield 15, 3) := by decide +kernel
theorem dX8_length_4 : decode cX8_length 4 = .ok (.ireturn, 1) := by decide +kernel
theorem dX8_signAt_0 : decode cX8_signAt 0 = .ok (.iload_n 1, 1) := by decide +kernel
theorem dX8_signAt_1 : decode cX8_signAt 1 = .ok (.ifCond .lt 26, 3) := by decide +kernel
theorem dX8_signAt_4 : decode cX8_signAt 4 = .ok (.iload_n 1, 1) := by decide +kernel
theorem dX8_signAt_5 : decode cX8_signAt 5 = .ok (.aload_n 0, 1) := by decide +kernel
theorem dX8_signAt_6 : decode cX8_signAt 6 = .ok (.getfield 15, 3) := by decide +kernel
theorem dX8_signAt_9 : decode cX8_signAt 9 = .ok (.if_icmp .ge 18, 3) := by decide +kernel
theorem dX8_signAt_12 : decode cX8_signAt 12 = .ok (.iload_n 1, 1) := by decide +kernel
theorem dX8_signAt_13 : decode cX8_signAt 13 = .ok (.bipush 120, 2) := by decide +kernel
theorem dX8_signAt_15 : decode cX8_signAt 15 = .ok (.if_icmp .ge 12, 3) := by decide +kernel
theorem dX8_signAt_18 : decode cX8_signAt 18 = .ok (.aload_n 0, 1) := by decide +kernel
theorem dX8_signAt_19 : decode cX8_signAt 19 = .ok (.getfield 9, 3) := by decide +kernel
theorem dX8_signAt_22 : decode cX8_signAt 22 = .ok (.iload_n 1, 1) := by decide +kernel
theorem dX8_signAt_23 : decode cX8_signAt 23 = .ok (.caload, 1) := by decide +kernel
theorem dX8_signAt_24 : decode cX8_signAt 24 = .ok (.goto 5, 3) := by decide +kernel
theorem dX8_signAt_27 : decode cX8_signAt 27 = .ok (.bipush (-9), 2) := by decide +kernel
theorem dX8_signAt_29 : decode cX8_signAt 29 = .ok (.ireturn, 1) := by decide +kernel
set_option maxRecDepth 20000 in
theorem ggX9_init_X7_init : GoodIn wsX9_init wsX7_init := goodIn_r _ [27, 28, 2, 3, 29, 30, 31, 32, 33, 34, 35, 36, 37, 38, 39, 40, 41, 42, 43, 44, 45, 46, 47, 48, 49, 50, 51, 52, 53, 54, 55, 6, 56, 57, 58, 59, 60, 61, 62, 63, 64, 65, 66, 67, 68, 69, 70, 71, 72, 73, 74, 75, 119, 120, 121, 122, 123, 124, 98, 99, 100, 101, 102, 103, 104, 125, 126, 127, 128, 129] (by decide +kernel) (by decide +kernel)
set_option maxRecDepth 20000 in
theorem gX9_init_X7_init : GoodIn wsX9_init (wsX7_init) := ggX9_init_X7_init
set_option maxRecDepth 20000 in
theorem ggX9_init_X1_init : GoodIn wsX9_init wsX1_init := goodIn_r _ [78, 79, 2, 3, 80, 81, 5, 6, 82, 26, 27, 28, 29, 30, 31, 32, 33, 34, 35, 36, 37, 38, 39, 40, 41, 42, 43, 44, 45, 46, 47, 48, 49, 50, 51, 52, 53, 54, 55, 56, 57, 58, 59, 60, 61, 62, 63, 64, 65, 66, 67, 68, 69, 70, 71, 72, 73, 74, 75, 111, 112, 113, 98, 99, 100, 101, 102, 103, 104, 119, 120, 121, 122, 123, 124, 125, 126, 127, 128, 129] (by decide +kernel) (by decide +kernel)
set_option maxRecDepth 20000 in
theorem gX9_init_X1_init : GoodIn wsX9_init (wsX1_init) := ggX9_init_X1_init
set_option maxRecDepth 20000 in
theorem ggX9_init_X6_init : GoodIn wsX9_init wsX6_init := goodIn_r _ [85, 86, 2, 3, 87, 88, 5, 6, 89, 26, 27, 28, 29, 30, 31, 32, 33, 34, 35, 36, 37, 38, 39, 40, 41, 42, 43, 44, 45, 46, 47, 48, 49, 50, 51, 52, 53, 54, 55, 56, 57, 58, 59, 60, 61, 62, 63, 64, 65, 66, 67, 68, 69, 70, 71, 72, 73, 74, 75, 114, 115, 98, 99, 100, 101, 102, 103, 104, 119, 120, 121, 122, 123, 124, 125, 126, 127, 128, 129] (by decide +kernel) (by decide +kernel)
set_option maxRecDepth 20000 in
theorem gX9_init_X6_init : GoodIn wsX9_init (wsX6_init) := ggX9_init_X6_init
set_option maxRecDepth 20000 in
theorem ggX9_init_X8_init : GoodIn wsX9_init wsX8_init := goodIn_r _ [91, 92, 2, 3, 93, 94, 116, 117] (by decide +kernel) (by decide +kernel)
set_option maxRecDepth 20000 in
theorem gX9_init_X8_init_n35 : GoodIn wsX9_init (wsX8_init) := ggX9_init_X8_init
set_option maxRecDepth 20000 in
theorem ggX9_init_X3_init : GoodIn wsX9_init wsX3_init := goodIn_r _ [96, 97, 2, 3] (by decide +kernel) (by decide +kernel)
set_option maxRecDepth 20000 in
theorem gX9_init_X3_init_n42 : GoodIn wsX9_init (wsX3_init) := ggX9_init_X3_init
theorem dX9_init_0 : decode cX9_init 0 = .ok (.aload_n 0, 1) := by decide +kernel
theorem dX9_init_1 : decode cX9_init 1 = .ok (.invokespecial 1, 3) := by decide +kernel
theorem dX9_init_4 : decode cX9_init 4 = .ok (.aload_n 0, 1) := by decide +kernel
theorem dX9_init_5 : decode cX9_init 5 = .ok (.new 7, 3) := by decide +kernel
theorem dX9_init_8 : decode cX9_init 8 = .ok (.dup, 1) := by decide +kernel
theorem dX9_init_9 : decode cX9_init 9 = .ok (.invokespecial 9, 3) := by decide +kernel
theorem dX9_init_12 : decode cX9_init 12 = .ok (.putfield 10, 3) := by decide +kernel
theorem dX9_init_15 : decode cX9_init 15 = .ok (.aload_n 0, 1) := by decide +kernel
theorem dX9_init_16 : decode cX9_init 16 = .ok (.new 7, 3) := by decide +kernel
theorem dX9_init_19 : decode cX9_init 19 = .ok (.dup, 1) := by decide +kernel
theorem dX9_init_20 : decode cX9_init 20 = .ok (.invokespecial 9, 3) := by decide +kernel
theorem dX9_init_23 : decode cX9_init 23 = .ok (.putfield 16, 3) := by decide +kernel
theorem dX9_init_26 : decode cX9_init 26 = .ok (.aload_n 0, 1) := by decide +kernel
theorem dX9_init_27 : decode cX9_init 27 = .ok (.new 19, 3) := by decide +kernel
theorem dX9_init_30 : decode cX9_init 30 = .ok (.dup, 1) := by decide +kernel
theorem dX9_init_31 : decode cX9_init 31 = .ok (.invokespecial 21, 3) := by decide +kernel
theorem dX9_init_34 : decode cX9_init 34 = .ok (.putfield 22, 3) := by decide +kernel
theorem dX9_init_37 : decode cX9_init 37 = .ok (.aload_n 0, 1) := by decide +kernel
theorem dX9_init_38 : decode cX9_init 38 = .ok (.new 26, 3) := by decide +kernel
theorem dX9_init_41 : decode cX9_init 41 = .ok (.dup, 1) := by decide +kernel
theorem dX9_init_42 : decode cX9_init 42 = .ok (.invokespecial 28, 3) := by decide +kernel
theorem dX9_init_45 : decode cX9_init 45 = .ok (.putfield 29, 3) := by decide +kernel
theorem dX9_init_48 : decode cX9_init 48 = .ok (.aload_n 0, 1) := by decide +kernel
theorem dX9_init_49 : decode cX9_init 49 = .ok (.new 33, 3) := by decide +kernel
theorem dX9_init_52 : decode cX9_init 52 = .ok (.dup, 1) := by decide +kernel
theorem dX9_init_53 : decode cX9_init 53 = .ok (.invokespecial 35, 3) := by decide +kernel
theorem dX9_init_56 : decode cX9_init 56 = .ok (.putfield 36, 3) := by decide +kernel
theorem dX9_init_59 : decode cX9_init 59 = .ok (.aload_n 0, 1) := by decide +kernel
theorem dX9_init_60 : decode cX9_init 60 = .ok (.new 40, 3) := by decide +kernel
theorem dX9_init_63 : decode cX9_init 63 = .ok (.dup, 1) := by decide +kernel
theorem dX9_init_64 : decode cX9_init 64 = .ok (.invokespecial 42, 3) := by decide +kernel
theorem dX9_init_67 : decode cX9_init 67 = .ok (.putfield 43, 3) := by decide +kernel
theorem dX9_init_70 : decode cX9_init 70 = .ok (.return_, 1) := by decide +kernel
set_option maxRecDepth 20000 in
theorem ggX9_errorPosition_X3_read : GoodIn wsX9_errorPosition wsX3_read := goodIn_r _ [8, 9, 10, 11, 12, 7, 13, 14, 15, 16, 17, 18, 19, 20, 21, 22, 23, 24, 25, 26, 27, 28, 29, 30, 31, 32, 33, 34, 35, 36, 37, 38, 39, 40, 41, 42, 43, 44, 45, 46, 47, 48, 49, 50, 51, 52, 53, 54, 55, 56, 57, 58, 59, 60, 61, 62, 63, 64, 65, 66, 67, 68, 69, 70, 71, 72, 73, 74, 75, 76, 77, 78, 79, 80, 81, 82, 83, 84, 85, 86, 87, 88, 89, 90, 91, 92, 93, 94, 95, 96, 97, 98, 99, 100, 101, 102, 103, 104, 105, 106, 107, 108, 109, 110, 111, 112, 113, 114, 115, 116, 117, 118, 119, 120, 121, 122, 123, 124, 125, 126, 127, 134, 135, 136, 137, 138, 139, 140, 141, 142, 143, 144, 145, 146, 147, 148, 149, 150, 151, 152, 153, 154] (by decide +kernel) (by decide +kernel)
set_option maxRecDepth 20000 in
theorem gX9_errorPosition_X3_read : GoodIn wsX9_errorPosition (wsV RX9 70 RX3 yX3_read wsX3_read) := goodIn_app (goodIn_of _ (by decide +kernel)) ggX9_errorPosition_X3_read
theorem dX9_errorPosition_0 : decode cX9_errorPosition 0 = .ok (.aload_n 0, 1) := by decide +kernel
theorem dX9_errorPosition_1 : decode cX9_errorPosition 1 = .ok (.getfield 43, 3) := by decide +kernel
theorem dX9_errorPosition_4 : decode cX9_errorPosition 4 = .ok (.aload_n 0, 1) := by decide +kernel
theorem dX9_errorPosition_5 : decode cX9_errorPosition 5 = .ok (.getfield 36, 3) := by decide +kernel
theorem dX9_errorPosition_8 : decode cX9_errorPosition 8 = .ok (.aload_n 0, 1) := by decide +kernel
theorem dX9_errorPosition_9 : decode cX9_errorPosition 9 = .ok (.getfield 16, 3) := by decide +kernel
theorem dX9_errorPosition_12 : decode cX9_errorPosition 12 = .ok (.invokevirtual 70, 3) := by decide +kernel
theorem dX9_errorPosition_15 : decode cX9_errorPosition 15 = .ok (.ireturn, 1) := by decide +kernel
set_option maxRecDepth 20000 in
theorem ggX9_about_X9_isWithin : GoodIn wsX9_about wsX9_isWithin := goodIn_r _ [5] (by decide +kernel) (by decide +kernel)
set_option maxRecDepth 20000 in
theorem gX9_about_X9_isWithin : GoodIn wsX9_about (va_wsS RX9 47 yX9_isWithin wsX9_isWithin) := goodIn_app (goodIn_of _ (by decide +kernel)) ggX9_about_X9_isWithin
set_option maxRecDepth 20000 in
theorem ggX9_about_X9_requireArgument : GoodIn wsX9_about wsX9_requireArgument := goodIn_ca (goodIn_r _ [8, 9, 10] (by decide +kernel) (by decide +kernel)) (goodIn_sub (fun _ h => List.mem_cons_of_mem _ (List.mem_append_right _ h)) (by decide +kernel))
set_option maxRecDepth 20000 in
theorem gX9_about_X9_requireArgument : GoodIn wsX9_about (va_wsS RX9 51 yX9_requireArgument wsX9_requireArgument) := goodIn_app (goodIn_of _ (by decide +kernel)) ggX9_about_X9_requireArgument
set_option maxRecDepth 20000 in
theorem ggX9_about_X7_houses : GoodIn wsX9_about wsX7_houses := goodIn_r _ [15, 16, 112, 113, 114, 115, 116, 117, 118] (by decide +kernel) (by decide +kernel)
set_option maxRecDepth 20000 in
theorem gX9_about_X7_houses : GoodIn wsX9_about (wsV RX9 93 RX7 yX7_houses wsX7_houses) := goodIn_app (goodIn_of _ (by decide +kernel)) ggX9_about_X7_houses
set_option maxRecDepth 20000 in
theorem ggX9_about_X0_count : GoodIn wsX9_about wsX0_count := goodIn_r _ [21, 22, 119, 120, 121, 122, 123] (by decide +kernel) (by decide +kernel)
set_option maxRecDepth 20000 in
theorem gX9_about_X0_count : GoodIn wsX9_about (wsV RX9 100 RX0 yX0_count wsX0_count) := goodIn_app (goodIn_of _ (by decide +kernel)) ggX9_about_X0_count
set_option maxRecDepth 20000 in
theorem ggX9_about_X4_count : GoodIn wsX9_about wsX4_count := goodIn_r _ [27, 28, 124, 125, 126, 127, 128, 129] (by decide +kernel) (by decide +kernel)
set_option maxRecDepth 20000 in
theorem gX9_about_X4_count : GoodIn wsX9_about (wsV RX9 88 RX4 yX4_count wsX4_count) := goodIn_app (goodIn_of _ (by decide +kernel)) ggX9_about_X4_count
set_option maxRecDepth 20000 in
theorem ggX9_about_X7_noise : GoodIn wsX9_about wsX7_noise := goodIn_r _ [32, 33, 112, 113, 114, 115, 116, 117, 118] (by decide +kernel) (by decide +kernel)
set_option maxRecDepth 20000 in
theorem gX9_about_X7_noise : GoodIn wsX9_about (wsV RX9 103 RX7 yX7_noise wsX7_noise) := goodIn_app (goodIn_of _ (by decide +kernel)) ggX9_about_X7_noise
set_option maxRecDepth 20000 in
theorem ggX9_about_X7_reach : GoodIn wsX9_about wsX7_reach := goodIn_r _ [37, 38, 112, 113, 114, 115, 116, 117, 118] (by decide +kernel) (by decide +kernel)
set_option maxRecDepth 20000 in
theorem gX9_about_X7_reach : GoodIn wsX9_about (wsV RX9 106 RX7 yX7_reach wsX7_reach) := goodIn_app (goodIn_of _ (by decide +kernel)) ggX9_about_X7_reach
set_option maxRecDepth 20000 in
theorem ggX9_about_X4_taught : GoodIn wsX9_about wsX4_taught := goodIn_r _ [42, 28, 43, 44, 45, 26, 46, 47, 48, 49, 50, 51, 52, 53, 54, 55, 124, 125, 126, 127, 128, 129] (by decide +kernel) (by decide +kernel)
set_option maxRecDepth 20000 in
theorem gX9_about_X4_taught : GoodIn wsX9_about (wsV RX9 109 RX4 yX4_taught wsX4_taught) := goodIn_app (goodIn_of _ (by decide +kernel)) ggX9_about_X4_taught
set_option maxRecDepth 20000 in
theorem ggX9_about_X4_wrong : GoodIn wsX9_about wsX4_wrong := goodIn_r _ [59, 28, 60, 61, 62, 26, 63, 64, 52, 53, 54, 55, 124, 125, 126, 127, 128, 129] (by decide +kernel) (by decide +kernel)
set_option maxRecDepth 20000 in
theorem gX9_about_X4_wrong : GoodIn wsX9_about (wsV RX9 112 RX4 yX4_wrong wsX4_wrong) := goodIn_app (goodIn_of _ (by decide +kernel)) ggX9_about_X4_wrong
set_option maxRecDepth 20000 in
theorem ggX9_about_X0_on : GoodIn wsX9_about wsX0_on := goodIn_r _ [68, 69, 119, 120, 121, 122, 123] (by decide +kernel) (by decide +kernel)
set_option maxRecDepth 20000 in
theorem gX9_about_X0_on : GoodIn wsX9_about (wsV RX9 115 RX0 yX0_on wsX0_on) := goodIn_app (goodIn_of _ (by decide +kernel)) ggX9_about_X0_on
set_option maxRecDepth 20000 in
theorem ggX9_about_X7_differentRoots : GoodIn wsX9_about wsX7_differentRoots := goodIn_r _ [73, 74, 75, 76, 77, 78, 26, 79, 80, 81, 82, 83, 47, 48, 49, 50, 51, 52, 53, 54, 55, 28, 84, 85, 86, 87, 88, 89, 90, 91, 92, 93, 94, 95, 96, 97, 98, 112, 113, 114, 115, 116, 117, 118, 124, 125, 126, 127, 128, 129] (by decide +kernel) (by decide +kernel)
set_option maxRecDepth 20000 in
theorem gX9_about_X7_differentRoots : GoodIn wsX9_about (wsV RX9 118 RX7 yX7_differentRoots wsX7_differentRoots) := goodIn_app (goodIn_of _ (by decide +kernel)) ggX9_about_X7_differentRoots
set_option maxRecDepth 20000 in
theorem ggX9_about_X4_greatestGeneration : GoodIn wsX9_about wsX4_greatestGeneration := goodIn_r _ [102, 28, 103, 104, 90, 105, 80, 81, 82, 26, 83, 47, 48, 49, 50, 51, 52, 53, 54, 55, 124, 125, 126, 127, 128, 129] (by decide +kernel) (by decide +kernel)
set_option maxRecDepth 20000 in
theorem gX9_about_X4_greatestGeneration : GoodIn wsX9_about (wsV RX9 121 RX4 yX4_greatestGeneration wsX4_greatestGeneration) := goodIn_app (goodIn_of _ (by decide +kernel)) ggX9_about_X4_greatestGeneration
theorem dX9_about_0 : decode cX9_about 0 = .ok (.iload_n 1, 1) := by decide +kernel
theorem dX9_about_1 : decode cX9_about 1 = .ok (.iconst 0, 1) := by decide +kernel
theorem dX9_about_2 : decode cX9_about 2 = .ok (.bipush 9, 2) := by decide +kernel
theorem dX9_about_4 : decode cX9_about 4 = .ok (.invokestatic 47, 3) := by decide +kernel
theorem dX9_about_7 : decode cX9_about 7 = .ok (.invokestatic 51, 3) := by decide +kernel
theorem dX9_about_10 : decode cX9_about 10 = .ok (.iload_n 1, 1) := by decide +kernel
theorem dX9_about_11 : decode cX9_about 11 = .ok (.tableswitch 136 0 8 #[49, 57, 68, 79, 87, 95, 106, 117, 128], 49) := by decide +kernel
theorem dX9_about_60 : decode cX9_about 60 = .ok (.aload_n 0, 1) := by decide +kernel
theorem dX9_about_61 : decode cX9_about 61 = .ok (.getfield 10, 3) := by decide +kernel
theorem dX9_about_64 : decode cX9_about 64 = .ok (.invokevirtual 93, 3) := by decide +kernel
theorem dX9_about_67 : decode cX9_about 67 = .ok (.ireturn, 1) := by decide +kernel
theorem dX9_about_68 : decode cX9_about 68 = .ok (.aload_n 0, 1) := by decide +kernel
theorem dX9_about_69 : decode cX9_about 69 = .ok (.getfield 10, 3) := by decide +kernel
theorem dX9_about_72 : decode cX9_about 72 = .ok (.getfield 96, 3) := by decide +kernel
theorem dX9_about_75 : decode cX9_about 75 = .ok (.invokevirtual 100, 3) := by decide +kernel
theorem dX9_about_78 : decode cX9_about 78 = .ok (.ireturn, 1) := by decide +kernel
theorem dX9_about_79 : decode cX9_about 79 = .ok (.aload_n 0, 1) := by decide +kernel
theorem dX9_about_80 : decode cX9_about 80 = .ok (.getfield 10, 3) := by decide +kernel
theorem dX9_about_83 : decode cX9_about 83 = .ok (.getfield 84, 3) := by decide +kernel
theorem dX9_about_86 : decode cX9_about 86 = .ok (.invokevirtual 88, 3) := by decide +kernel
theorem dX9_about_89 : decode cX9_about 89 = .ok (.ireturn, 1) := by decide +kernel
theorem dX9_about_90 : decode cX9_about 90 = .ok (.aload_n 0, 1) := by decide +kernel
theorem dX9_about_91 : decode cX9_about 91 = .ok (.getfield 10, 3) := by decide +kernel
theorem dX9_about_94 : decode cX9_about 94 = .ok (.invokevirtual 103, 3) := by decide +kernel
theorem dX9_about_97 : decode cX9_about 97 = .ok (.ireturn, 1) := by decide +kernel
theorem dX9_about_98 : decode cX9_about 98 = .ok (.aload_n 0, 1) := by decide +kernel
theorem dX9_about_99 : decode cX9_about 99 = .ok (.getfield 10, 3) := by decide +kernel
theorem dX9_about_102 : decode cX9_about 102 = .ok (.invokevirtual 106, 3) := by decide +kernel
theorem dX9_about_105 : decode cX9_about 105 = .ok (.ireturn, 1) := by decide +kernel
theorem dX9_about_106 : decode cX9_about 106 = .ok (.aload_n 0, 1) := by decide +kernel
theorem dX9_about_107 : decode cX9_about 107 = .ok (.getfield 10, 3) := by decide +kernel
theorem dX9_about_110 : decode cX9_about 110 = .ok (.getfield 84, 3) := by decide +kernel
theorem dX9_about_113 : decode cX9_about 113 = .ok (.invokevirtual 109, 3) := by decide +kernel
theorem dX9_about_116 : decode cX9_about 116 = .ok (.ireturn, 1) := by decide +kernel
theorem dX9_about_117 : decode cX9_about 117 = .ok (.aload_n 0, 1) := by decide +kernel
theorem dX9_about_118 : decode cX9_about 118 = .ok (.getfield 10, 3) := by decide +kernel
theorem dX9_about_121 : decode cX9_about 121 = .ok (.getfield 84, 3) := by decide +kernel
theorem dX9_about_124 : decode cX9_about 124 = .ok (.invokevirtual 112, 3) := by decide +kernel
theorem dX9_about_127 : decode cX9_about 127 = .ok (.ireturn, 1) := by decide +kernel
theorem dX9_about_128 : decode cX9_about 128 = .ok (.aload_n 0, 1) := by decide +kernel
theorem dX9_about_129 : decode cX9_about 129 = .ok (.getfield 10, 3) := by decide +kernel
theorem dX9_about_132 : decode cX9_about 132 = .ok (.getfield 96, 3) := by decide +kernel
theorem dX9_about_135 : decode cX9_about 135 = .ok (.invokevirtual 115, 3) := by decide +kernel
theorem dX9_about_138 : decode cX9_about 138 = .ok (.ireturn, 1) := by decide +kernel
theorem dX9_about_139 : decode cX9_about 139 = .ok (.aload_n 0, 1) := by decide +kernel
theorem dX9_about_140 : decode cX9_about 140 = .ok (.getfield 10, 3) := by decide +kernel
theorem dX9_about_143 : decode cX9_about 143 = .ok (.invokevirtual 118, 3) := by decide +kernel
theorem dX9_about_146 : decode cX9_about 146 = .ok (.ireturn, 1) := by decide +kernel
theorem dX9_about_147 : decode cX9_about 147 = .ok (.aload_n 0, 1) := by decide +kernel
theorem dX9_about_148 : decode cX9_about 148 = .ok (.getfield 10, 3) := by decide +kernel
theorem dX9_about_151 : decode cX9_about 151 = .ok (.getfield 84, 3) := by decide +kernel
theorem dX9_about_154 : decode cX9_about 154 = .ok (.invokevirtual 121, 3) := by decide +kernel
theorem dX9_about_157 : decode cX9_about 157 = .ok (.ireturn, 1) := by decide +kernel
set_option maxRecDepth 20000 in
theorem ggX9_key_X9_requireKey : GoodIn wsX9_key wsX9_requireKey := goodIn_ca (goodIn_r _ [6, 1, 7, 8, 9, 10, 11, 12, 13, 14, 5, 15, 16, 17, 89, 90, 91, 92, 93, 94, 95, 96, 97, 98, 99, 100, 101] (by decide +kernel) (by decide +kernel)) (goodIn_sub (fun _ h => List.mem_cons_of_mem _ (List.mem_append_left _ (List.mem_append_right _ h))) (by decide +kernel))
set_option maxRecDepth 20000 in
theorem gX9_key_X9_requireKey : GoodIn wsX9_key (wsV RX9 124 RX9 yX9_requireKey wsX9_requireKey) := goodIn_app (goodIn_of _ (by decide +kernel)) ggX9_key_X9_requireKey
set_option maxRecDepth 20000 in
theorem ggX9_key_X9_isWithin : GoodIn wsX9_key wsX9_isWithin := goodIn_r _ [20] (by decide +kernel) (by decide +kernel)
set_option maxRecDepth 20000 in
theorem gX9_key_X9_isWithin : GoodIn wsX9_key (va_wsS RX9 47 yX9_isWithin wsX9_isWithin) := goodIn_app (goodIn_of _ (by decide +kernel)) ggX9_key_X9_isWithin
set_option maxRecDepth 20000 in
theorem ggX9_key_X9_requireArgument : GoodIn wsX9_key wsX9_requireArgument := goodIn_ca (goodIn_r _ [23, 24, 25] (by decide +kernel) (by decide +kernel)) (goodIn_sub (fun _ h => List.mem_cons_of_mem _ (List.mem_append_right _ h)) (by decide +kernel))
set_option maxRecDepth 20000 in
theorem gX9_key_X9_requireArgument : GoodIn wsX9_key (va_wsS RX9 51 yX9_requireArgument wsX9_requireArgument) := goodIn_app (goodIn_of _ (by decide +kernel)) ggX9_key_X9_requireArgument
set_option maxRecDepth 20000 in
theorem ggX9_key_X7_recordOf : GoodIn wsX9_key wsX7_recordOf := goodIn_r _ [29, 30, 31, 8, 9, 10, 11, 12, 95, 96, 97, 98, 99, 100, 101] (by decide +kernel) (by decide +kernel)
set_option maxRecDepth 20000 in
theorem gX9_key_X7_recordOf : GoodIn wsX9_key (wsV RX9 128 RX7 yX7_recordOf wsX7_recordOf) := goodIn_app (goodIn_of _ (by decide +kernel)) ggX9_key_X7_recordOf
set_option maxRecDepth 20000 in
theorem ggX9_key_X4_rootOf : GoodIn wsX9_key wsX4_rootOf := goodIn_r _ [36, 37, 38, 39, 35, 40, 41, 42, 43, 44, 45, 46, 47, 48, 49, 50, 51, 52, 53, 54, 55, 56, 57, 58, 102, 103, 104, 105, 106, 107] (by decide +kernel) (by decide +kernel)
set_option maxRecDepth 20000 in
theorem gX9_key_X4_rootOf : GoodIn wsX9_key (wsV RX9 132 RX4 yX4_rootOf wsX4_rootOf) := goodIn_app (goodIn_of _ (by decide +kernel)) ggX9_key_X4_rootOf
set_option maxRecDepth 20000 in
theorem ggX9_key_X4_codeOf : GoodIn wsX9_key wsX4_codeOf := goodIn_r _ [62, 63, 46, 47, 48, 35, 49, 50, 102, 103, 104, 105, 106, 107] (by decide +kernel) (by decide +kernel)
set_option maxRecDepth 20000 in
theorem gX9_key_X4_codeOf : GoodIn wsX9_key (wsV RX9 135 RX4 yX4_codeOf wsX4_codeOf) := goodIn_app (goodIn_of _ (by decide +kernel)) ggX9_key_X4_codeOf
set_option maxRecDepth 20000 in
theorem ggX9_key_X4_generationOf : GoodIn wsX9_key wsX4_generationOf := goodIn_r _ [40, 41, 42, 43, 35, 44, 45, 46, 47, 48, 49, 50, 102, 103, 104, 105, 106, 107] (by decide +kernel) (by decide +kernel)
set_option maxRecDepth 20000 in
theorem gX9_key_X4_generationOf : GoodIn wsX9_key (wsV RX9 138 RX4 yX4_generationOf wsX4_generationOf) := goodIn_app (goodIn_of _ (by decide +kernel)) ggX9_key_X4_generationOf
set_option maxRecDepth 20000 in
theorem ggX9_key_X4_houseOf : GoodIn wsX9_key wsX4_houseOf := goodIn_r _ [68, 69, 46, 47, 48, 35, 49, 50, 102, 103, 104, 105, 106, 107] (by decide +kernel) (by decide +kernel)
set_option maxRecDepth 20000 in
theorem gX9_key_X4_houseOf : GoodIn wsX9_key (wsV RX9 141 RX4 yX4_houseOf wsX4_houseOf) := goodIn_app (goodIn_of _ (by decide +kernel)) ggX9_key_X4_houseOf
set_option maxRecDepth 20000 in
theorem ggX9_key_X4_wrongBitsInChain : GoodIn wsX9_key wsX4_wrongBitsInChain := goodIn_r _ [73, 74, 75, 76, 35, 77, 78, 46, 47, 48, 49, 50, 41, 42, 43, 44, 45, 102, 103, 104, 105, 106, 107] (by decide +kernel) (by decide +kernel)
set_option maxRecDepth 20000 in
theorem gX9_key_X4_wrongBitsInChain : GoodIn wsX9_key (wsV RX9 144 RX4 yX4_wrongBitsInChain wsX4_wrongBitsInChain) := goodIn_app (goodIn_of _ (by decide +kernel)) ggX9_key_X4_wrongBitsInChain
set_option maxRecDepth 20000 in
theorem ggX9_key_X9_apart : GoodIn wsX9_key wsX9_apart := goodIn_r _ [81, 82, 83, 84, 85, 86, 87, 88] (by decide +kernel) (by decide +kernel)
set_option maxRecDepth 20000 in
theorem gX9_key_X9_apart : GoodIn wsX9_key (va_wsS RX9 147 yX9_apart wsX9_apart) := goodIn_app (goodIn_of _ (by decide +kernel)) ggX9_key_X9_apart
theorem dX9_key_0 : decode cX9_key 0 = .ok (.aload_n 0, 1) := by decide +kernel
theorem dX9_key_1 : decode cX9_key 1 = .ok (.iload_n 1, 1) := by decide +kernel
theorem dX9_key_2 : decode cX9_key 2 = .ok (.iload_n 2, 1) := by decide +kernel
theorem dX9_key_3 : decode cX9_key 3 = .ok (.invokevirtual 124, 3) := by decide +kernel
theorem dX9_key_6 : decode cX9_key 6 = .ok (.iload_n 3, 1) := by decide +kernel
theorem dX9_key_7 : decode cX9_key 7 = .ok (.iconst 0, 1) := by decide +kernel
theorem dX9_key_8 : decode cX9_key 8 = .ok (.iconst 5, 1) := by decide +kernel
theorem dX9_key_9 : decode cX9_key 9 = .ok (.invokestatic 47, 3) := by decide +kernel
theorem dX9_key_12 : decode cX9_key 12 = .ok (.invokestatic 51, 3) := by decide +kernel
theorem dX9_key_15 : decode cX9_key 15 = .ok (.aload_n 0, 1) := by decide +kernel
theorem dX9_key_16 : decode cX9_key 16 = .ok (.getfield 10, 3) := by decide +kernel
theorem dX9_key_19 : decode cX9_key 19 = .ok (.iload_n 1, 1) := by decide +kernel
theorem dX9_key_20 : decode cX9_key 20 = .ok (.iload_n 2, 1) := by decide +kernel
theorem dX9_key_21 : decode cX9_key 21 = .ok (.invokevirtual 128, 3) := by decide +kernel
theorem dX9_key_24 : decode cX9_key 24 = .ok (.istore 4, 2) := by decide +kernel
theorem dX9_key_26 : decode cX9_key 26 = .ok (.iload 4, 2) := by decide +kernel
theorem dX9_key_28 : decode cX9_key 28 = .ok (.bipush (-9), 2) := by decide +kernel
theorem dX9_key_30 : decode cX9_key 30 = .ok (.if_icmp .ne 6, 3) := by decide +kernel
theorem dX9_key_33 : decode cX9_key 33 = .ok (.bipush (-9), 2) := by decide +kernel
theorem dX9_key_35 : decode cX9_key 35 = .ok (.ireturn, 1) := by decide +kernel
theorem dX9_key_36 : decode cX9_key 36 = .ok (.aload_n 0, 1) := by decide +kernel
theorem dX9_key_37 : decode cX9_key 37 = .ok (.getfield 10, 3) := by decide +kernel
theorem dX9_key_40 : decode cX9_key 40 = .ok (.getfield 84, 3) := by decide +kernel
theorem dX9_key_43 : decode cX9_key 43 = .ok (.iload 4, 2) := by decide +kernel
theorem dX9_key_45 : decode cX9_key 45 = .ok (.invokevirtual 132, 3) := by decide +kernel
theorem dX9_key_48 : decode cX9_key 48 = .ok (.istore 5, 2) := by decide +kernel
theorem dX9_key_50 : decode cX9_key 50 = .ok (.iload_n 3, 1) := by decide +kernel
theorem dX9_key_51 : decode cX9_key 51 = .ok (.tableswitch 88 0 4 #[33, 46, 49, 62, 75], 33) := by decide +kernel
theorem dX9_key_84 : decode cX9_key 84 = .ok (.aload_n 0, 1) := by decide +kernel
theorem dX9_key_85 : decode cX9_key 85 = .ok (.getfield 10, 3) := by decide +kernel
theorem dX9_key_88 : decode cX9_key 88 = .ok (.getfield 84, 3) := by decide +kernel
theorem dX9_key_91 : decode cX9_key 91 = .ok (.iload 4, 2) := by decide +kernel
theorem dX9_key_93 : decode cX9_key 93 = .ok (.invokevirtual 135, 3) := by decide +kernel
theorem dX9_key_96 : decode cX9_key 96 = .ok (.ireturn, 1) := by decide +kernel
theorem dX9_key_97 : decode cX9_key 97 = .ok (.iload 4, 2) := by decide +kernel
theorem dX9_key_99 : decode cX9_key 99 = .ok (.ireturn, 1) := by decide +kernel
theorem dX9_key_100 : decode cX9_key 100 = .ok (.aload_n 0, 1) := by decide +kernel
theorem dX9_key_101 : decode cX9_key 101 = .ok (.getfield 10, 3) := by decide +kernel
theorem dX9_key_104 : decode cX9_key 104 = .ok (.getfield 84, 3) := by decide +kernel
theorem dX9_key_107 : decode cX9_key 107 = .ok (.iload 4, 2) := by decide +kernel
theorem dX9_key_109 : decode cX9_key 109 = .ok (.invokevirtual 138, 3) := by decide +kernel
theorem dX9_key_112 : decode cX9_key 112 = .ok (.ireturn, 1) := by decide +kernel
theorem dX9_key_113 : decode cX9_key 113 = .ok (.aload_n 0, 1) := by decide +kernel
theorem dX9_key_114 : decode cX9_key 114 = .ok (.getfield 10, 3) := by decide +kernel
theorem dX9_key_117 : decode cX9_key 117 = .ok (.getfield 84, 3) := by decide +kernel
theorem dX9_key_120 : decode cX9_key 120 = .ok (.iload 5, 2) := by decide +kernel
theorem dX9_key_122 : decode cX9_key 122 = .ok (.invokevirtual 141, 3) := by decide +kernel
theorem dX9_key_125 : decode cX9_key 125 = .ok (.ireturn, 1) := by decide +kernel
theorem dX9_key_126 : decode cX9_key 126 = .ok (.aload_n 0, 1) := by decide +kernel
theorem dX9_key_127 : decode cX9_key 127 = .ok (.getfield 10, 3) := by decide +kernel
theorem dX9_key_130 : decode cX9_key 130 = .ok (.getfield 84, 3) := by decide +kernel
theorem dX9_key_133 : decode cX9_key 133 = .ok (.iload 4, 2) := by decide +kernel
theorem dX9_key_135 : decode cX9_key 135 = .ok (.invokevirtual 144, 3) := by decide +kernel
theorem dX9_key_138 : decode cX9_key 138 = .ok (.ireturn, 1) := by decide +kernel
theorem dX9_key_139 : decode cX9_key 139 = .ok (.aload_n 0, 1) := by decide +kernel
theorem dX9_key_140 : decode cX9_key 140 = .ok (.getfield 10, 3) := by decide +kernel
theorem dX9_key_143 : decode cX9_key 143 = .ok (.getfield 84, 3) := by decide +kernel
theorem dX9_key_146 : decode cX9_key 146 = .ok (.iload 4, 2) := by decide +kernel
theorem dX9_key_148 : decode cX9_key 148 = .ok (.invokevirtual 135, 3) := by decide +kernel
theorem dX9_key_151 : decode cX9_key 151 = .ok (.aload_n 0, 1) := by decide +kernel
theorem dX9_key_152 : decode cX9_key 152 = .ok (.getfield 10, 3) := by decide +kernel
theorem dX9_key_155 : decode cX9_key 155 = .ok (.getfield 84, 3) := by decide +kernel
theorem dX9_key_158 : decode cX9_key 158 = .ok (.iload 5, 2) := by decide +kernel
theorem dX9_key_160 : decode cX9_key 160 = .ok (.invokevirtual 135, 3) := by decide +kernel
theorem dX9_key_163 : decode cX9_key 163 = .ok (.invokestatic 147, 3) := by decide +kernel
theorem dX9_key_166 : decode cX9_key 166 = .ok (.ireturn, 1) := by decide +kernel
set_option maxRecDepth 20000 in
theorem ggX9_record_X4_has : GoodIn wsX9_record wsX4_has := goodIn_r _ [6, 7, 77, 78, 79, 80, 81, 82] (by decide +kernel) (by decide +kernel)
set_option maxRecDepth 20000 in
theorem gX9_record_X4_has : GoodIn wsX9_record (wsV RX9 150 RX4 yX4_has wsX4_has) := goodIn_app (goodIn_of _ (by decide +kernel)) ggX9_record_X4_has
set_option maxRecDepth 20000 in
theorem ggX9_record_X9_requirePlace : GoodIn wsX9_record wsX9_requirePlace := goodIn_ca (goodIn_r _ [11, 12, 13] (by decide +kernel) (by decide +kernel)) (goodIn_sub (fun _ h => List.mem_cons_of_mem _ (List.mem_append_left _ (List.mem_append_right _ h))) (by decide +kernel))
set_option maxRecDepth 20000 in
theorem gX9_record_X9_requirePlace : GoodIn wsX9_record (va_wsS RX9 154 yX9_requirePlace wsX9_requirePlace) := goodIn_app (goodIn_of _ (by decide +kernel)) ggX9_record_X9_requirePlace
set_option maxRecDepth 20000 in
theorem ggX9_record_X9_isWithin : GoodIn wsX9_record wsX9_isWithin := goodIn_r _ [16] (by decide +kernel) (by decide +kernel)
set_option maxRecDepth 20000 in
theorem gX9_record_X9_isWithin : GoodIn wsX9_record (va_wsS RX9 47 yX9_isWithin wsX9_isWithin) := goodIn_app (goodIn_of _ (by decide +kernel)) ggX9_record_X9_isWithin
set_option maxRecDepth 20000 in
theorem ggX9_record_X9_requireArgument : GoodIn wsX9_record wsX9_requireArgument := goodIn_ca (goodIn_r _ [19, 20, 21] (by decide +kernel) (by decide +kernel)) (goodIn_sub (fun _ h => List.mem_cons_of_mem _ (List.mem_append_right _ h)) (by decide +kernel))
set_option maxRecDepth 20000 in
theorem gX9_record_X9_requireArgument : GoodIn wsX9_record (va_wsS RX9 51 yX9_requireArgument wsX9_requireArgument) := goodIn_app (goodIn_of _ (by decide +kernel)) ggX9_record_X9_requireArgument
set_option maxRecDepth 20000 in
theorem ggX9_record_X4_parentOf : GoodIn wsX9_record wsX4_parentOf := goodIn_r _ [25, 26, 27, 3, 4, 5, 6, 7, 77, 78, 79, 80, 81, 82] (by decide +kernel) (by decide +kernel)
set_option maxRecDepth 20000 in
theorem gX9_record_X4_parentOf : GoodIn wsX9_record (wsV RX9 157 RX4 yX4_parentOf wsX4_parentOf) := goodIn_app (goodIn_of _ (by decide +kernel)) ggX9_record_X4_parentOf
set_option maxRecDepth 20000 in
theorem ggX9_record_X4_houseOf : GoodIn wsX9_record wsX4_houseOf := goodIn_r _ [31, 32, 27, 3, 4, 5, 6, 7, 77, 78, 79, 80, 81, 82] (by decide +kernel) (by decide +kernel)
set_option maxRecDepth 20000 in
theorem gX9_record_X4_houseOf : GoodIn wsX9_record (wsV RX9 141 RX4 yX4_houseOf wsX4_houseOf) := goodIn_app (goodIn_of _ (by decide +kernel)) ggX9_record_X4_houseOf
set_option maxRecDepth 20000 in
theorem ggX9_record_X4_keyOf : GoodIn wsX9_record wsX4_keyOf := goodIn_r _ [36, 37, 27, 3, 4, 5, 6, 7, 77, 78, 79, 80, 81, 82] (by decide +kernel) (by decide +kernel)
set_option maxRecDepth 20000 in
theorem gX9_record_X4_keyOf : GoodIn wsX9_record (wsV RX9 160 RX4 yX4_keyOf wsX4_keyOf) := goodIn_app (goodIn_of _ (by decide +kernel)) ggX9_record_X4_keyOf
set_option maxRecDepth 20000 in
theorem ggX9_record_X4_codeOf : GoodIn wsX9_record wsX4_codeOf := goodIn_r _ [41, 42, 27, 3, 4, 5, 6, 7, 77, 78, 79, 80, 81, 82] (by decide +kernel) (by decide +kernel)
set_option maxRecDepth 20000 in
theorem gX9_record_X4_codeOf : GoodIn wsX9_record (wsV RX9 135 RX4 yX4_codeOf wsX4_codeOf) := goodIn_app (goodIn_of _ (by decide +kernel)) ggX9_record_X4_codeOf
set_option maxRecDepth 20000 in
theorem ggX9_record_X4_wrongBitOf : GoodIn wsX9_record wsX4_wrongBitOf := goodIn_r _ [46, 47, 27, 3, 4, 5, 6, 7, 77, 78, 79, 80, 81, 82] (by decide +kernel) (by decide +kernel)
set_option maxRecDepth 20000 in
theorem gX9_record_X4_wrongBitOf : GoodIn wsX9_record (wsV RX9 163 RX4 yX4_wrongBitOf wsX4_wrongBitOf) := goodIn_app (goodIn_of _ (by decide +kernel)) ggX9_record_X4_wrongBitOf
set_option maxRecDepth 20000 in
theorem ggX9_record_X4_childrenOf : GoodIn wsX9_record wsX4_childrenOf := goodIn_r _ [51, 7, 52, 23, 24, 5, 25, 26, 27, 3, 4, 6, 77, 78, 79, 80, 81, 82] (by decide +kernel) (by decide +kernel)
set_option maxRecDepth 20000 in
theorem gX9_record_X4_childrenOf : GoodIn wsX9_record (wsV RX9 166 RX4 yX4_childrenOf wsX4_childrenOf) := goodIn_app (goodIn_of _ (by decide +kernel)) ggX9_record_X4_childrenOf
set_option maxRecDepth 20000 in
theorem ggX9_record_X7_keysFrom : GoodIn wsX9_record wsX7_keysFrom := goodIn_r _ [57, 58, 59, 60, 61, 62, 5, 63, 52, 23, 24, 25, 26, 27, 3, 4, 6, 7, 70, 71, 72, 73, 74, 75, 76, 77, 78, 79, 80, 81, 82] (by decide +kernel) (by decide +kernel)
set_option maxRecDepth 20000 in
theorem gX9_record_X7_keysFrom : GoodIn wsX9_record (wsV RX9 169 RX7 yX7_keysFrom wsX7_keysFrom) := goodIn_app (goodIn_of _ (by decide +kernel)) ggX9_record_X7_keysFrom
theorem dX9_record_0 : decode cX9_record 0 = .ok (.aload_n 0, 1) := by decide +kernel
theorem dX9_record_1 : decode cX9_record 1 = .ok (.getfield 10, 3) := by decide +kernel
theorem dX9_record_4 : decode cX9_record 4 = .ok (.getfield 84, 3) := by decide +kernel
theorem dX9_record_7 : decode cX9_record 7 = .ok (.iload_n 1, 1) := by decide +kernel
theorem dX9_record_8 : decode cX9_record 8 = .ok (.invokevirtual 150, 3) := by decide +kernel
theorem dX9_record_11 : decode cX9_record 11 = .ok (.invokestatic 154, 3) := by decide +kernel
theorem dX9_record_14 : decode cX9_record 14 = .ok (.iload_n 2, 1) := by decide +kernel
theorem dX9_record_15 : decode cX9_record 15 = .ok (.iconst 0, 1) := by decide +kernel
theorem dX9_record_16 : decode cX9_record 16 = .ok (.bipush 6, 2) := by decide +kernel
theorem dX9_record_18 : decode cX9_record 18 = .ok (.invokestatic 47, 3) := by decide +kernel
theorem dX9_record_21 : decode cX9_record 21 = .ok (.invokestatic 51, 3) := by decide +kernel
theorem dX9_record_24 : decode cX9_record 24 = .ok (.iload_n 2, 1) := by decide +kernel
theorem dX9_record_25 : decode cX9_record 25 = .ok (.tableswitch 111 0 5 #[39, 51, 63, 75, 87, 99], 39) := by decide +kernel
theorem dX9_record_64 : decode cX9_record 64 = .ok (.aload_n 0, 1) := by decide +kernel
theorem dX9_record_65 : decode cX9_record 65 = .ok (.getfield 10, 3) := by decide +kernel
theorem dX9_record_68 : decode cX9_record 68 = .ok (.getfield 84, 3) := by decide +kernel
theorem dX9_record_71 : decode cX9_record 71 = .ok (.iload_n 1, 1) := by decide +kernel
theorem dX9_record_72 : decode cX9_record 72 = .ok (.invokevirtual 157, 3) := by decide +kernel
theorem dX9_record_75 : decode cX9_record 75 = .ok (.ireturn, 1) := by decide +kernel
theorem dX9_record_76 : decode cX9_record 76 = .ok (.aload_n 0, 1) := by decide +kernel
theorem dX9_record_77 : decode cX9_record 77 = .ok (.getfield 10, 3) := by decide +kernel
theorem dX9_record_80 : decode cX9_record 80 = .ok (.getfield 84, 3) := by decide +kernel
theorem dX9_record_83 : decode cX9_record 83 = .ok (.iload_n 1, 1) := by decide +kernel
theorem dX9_record_84 : decode cX9_record 84 = .ok (.invokevirtual 141, 3) := by decide +kernel
theorem dX9_record_87 : decode cX9_record 87 = .ok (.ireturn, 1) := by decide +kernel
theorem dX9_record_88 : decode cX9_record 88 = .ok (.aload_n 0, 1) := by decide +kernel
theorem dX9_record_89 : decode cX9_record 89 = .ok (.getfield 10, 3) := by decide +kernel
theorem dX9_record_92 : decode cX9_record 92 = .ok (.getfield 84, 3) := by decide +kernel
theorem dX9_record_95 : decode cX9_record 95 = .ok (.iload_n 1, 1) := by decide +kernel
theorem dX9_record_96 : decode cX9_record 96 = .ok (.invokevirtual 160, 3) := by decide +kernel
theorem dX9_record_99 : decode cX9_record 99 = .ok (.ireturn, 1) := by decide +kernel
theorem dX9_record_100 : decode cX9_record 100 = .ok (.aload_n 0, 1) := by decide +kernel
theorem dX9_record_101 : decode cX9_record 101 = .ok (.getfield 10, 3) := by decide +kernel
theorem dX9_record_104 : decode cX9_record 104 = .ok (.getfield 84, 3) := by decide +kernel
theorem dX9_record_107 : decode cX9_record 107 = .ok (.iload_n 1, 1) := by decide +kernel
theorem dX9_record_108 : decode cX9_record 108 = .ok (.invokevirtual 135, 3) := by decide +kernel
theorem dX9_record_111 : decode cX9_record 111 = .ok (.ireturn, 1) := by decide +kernel
theorem dX9_record_112 : decode cX9_record 112 = .ok (.aload_n 0, 1) := by decide +kernel
theorem dX9_record_113 : decode cX9_record 113 = .ok (.getfield 10, 3) := by decide +kernel
theorem dX9_record_116 : decode cX9_record 116 = .ok (.getfield 84, 3) := by decide +kernel
theorem dX9_record_119 : decode cX9_record 119 = .ok (.iload_n 1, 1) := by decide +kernel
theorem dX9_record_120 : decode cX9_record 120 = .ok (.invokevirtual 163, 3) := by decide +kernel
theorem dX9_record_123 : decode cX9_record 123 = .ok (.ireturn, 1) := by decide +kernel
theorem dX9_record_124 : decode cX9_record 124 = .ok (.aload_n 0, 1) := by decide +kernel
theorem dX9_record_125 : decode cX9_record 125 = .ok (.getfield 10, 3) := by decide +kernel
theorem dX9_record_128 : decode cX9_record 128 = .ok (.getfield 84, 3) := by decide +kernel
theorem dX9_record_131 : decode cX9_record 131 = .ok (.iload_n 1, 1) := by decide +kernel
theorem dX9_record_132 : decode cX9_record 132 = .ok (.invokevirtual 166, 3) := by decide +kernel
theorem dX9_record_135 : decode cX9_record 135 = .ok (.ireturn, 1) := by decide +kernel
theorem dX9_record_136 : decode cX9_record 136 = .ok (.aload_n 0, 1) := by decide +kernel
theorem dX9_record_137 : decode cX9_record 137 = .ok (.getfield 10, 3) := by decide +kernel
theorem dX9_record_140 : decode cX9_record 140 = .ok (.iload_n 1, 1) := by decide +kernel
theorem dX9_record_141 : decode cX9_record 141 = .ok (.invokevirtual 169, 3) := by decide +kernel
theorem dX9_record_144 : decode cX9_record 144 = .ok (.ireturn, 1) := by decide +kernel
set_option maxRecDepth 20000 in
theorem ggX9_device_X0_has : GoodIn wsX9_device wsX0_has := goodIn_r _ [6, 7, 103, 104, 105, 106, 107] (by decide +kernel) (by decide +kernel)
set_option maxRecDepth 20000 in
theorem gX9_device_X0_has : GoodIn wsX9_device (wsV RX9 172 RX0 yX0_has wsX0_has) := goodIn_app (goodIn_of _ (by decide +kernel)) ggX9_device_X0_has
set_option maxRecDepth 20000 in
theorem ggX9_device_X9_requirePlace : GoodIn wsX9_device wsX9_requirePlace := goodIn_ca (goodIn_r _ [11, 12, 13] (by decide +kernel) (by decide +kernel)) (goodIn_sub (fun _ h => List.mem_cons_of_mem _ (List.mem_append_left _ (List.mem_append_right _ h))) (by decide +kernel))
set_option maxRecDepth 20000 in
theorem gX9_device_X9_requirePlace : GoodIn wsX9_device (va_wsS RX9 154 yX9_requirePlace wsX9_requirePlace) := goodIn_app (goodIn_of _ (by decide +kernel)) ggX9_device_X9_requirePlace
set_option maxRecDepth 20000 in
theorem ggX9_device_X9_isWithin : GoodIn wsX9_device wsX9_isWithin := goodIn_r _ [16] (by decide +kernel) (by decide +kernel)
set_option maxRecDepth 20000 in
theorem gX9_device_X9_isWithin : GoodIn wsX9_device (va_wsS RX9 47 yX9_isWithin wsX9_isWithin) := goodIn_app (goodIn_of _ (by decide +kernel)) ggX9_device_X9_isWithin
set_option maxRecDepth 20000 in
theorem ggX9_device_X9_requireArgument : GoodIn wsX9_device wsX9_requireArgument := goodIn_ca (goodIn_r _ [19, 20, 21] (by decide +kernel) (by decide +kernel)) (goodIn_sub (fun _ h => List.mem_cons_of_mem _ (List.mem_append_right _ h)) (by decide +kernel))
set_option maxRecDepth 20000 in
theorem gX9_device_X9_requireArgument : GoodIn wsX9_device (va_wsS RX9 51 yX9_requireArgument wsX9_requireArgument) := goodIn_app (goodIn_of _ (by decide +kernel)) ggX9_device_X9_requireArgument
set_option maxRecDepth 20000 in
theorem ggX9_device_X0_houseOf : GoodIn wsX9_device wsX0_houseOf := goodIn_r _ [25, 26, 27, 3, 4, 5, 6, 7, 103, 104, 105, 106, 107] (by decide +kernel) (by decide +kernel)
set_option maxRecDepth 20000 in
theorem gX9_device_X0_houseOf : GoodIn wsX9_device (wsV RX9 173 RX0 yX0_houseOf wsX0_houseOf) := goodIn_app (goodIn_of _ (by decide +kernel)) ggX9_device_X0_houseOf
set_option maxRecDepth 20000 in
theorem ggX9_device_X0_codeOf : GoodIn wsX9_device wsX0_codeOf := goodIn_r _ [31, 32, 27, 3, 4, 5, 6, 7, 103, 104, 105, 106, 107] (by decide +kernel) (by decide +kernel)
set_option maxRecDepth 20000 in
theorem gX9_device_X0_codeOf : GoodIn wsX9_device (wsV RX9 174 RX0 yX0_codeOf wsX0_codeOf) := goodIn_app (goodIn_of _ (by decide +kernel)) ggX9_device_X0_codeOf
set_option maxRecDepth 20000 in
theorem ggX9_device_X0_toleranceOf : GoodIn wsX9_device wsX0_toleranceOf := goodIn_r _ [36, 37, 27, 3, 4, 5, 6, 7, 103, 104, 105, 106, 107] (by decide +kernel) (by decide +kernel)
set_option maxRecDepth 20000 in
theorem gX9_device_X0_toleranceOf : GoodIn wsX9_device (wsV RX9 175 RX0 yX0_toleranceOf wsX0_toleranceOf) := goodIn_app (goodIn_of _ (by decide +kernel)) ggX9_device_X0_toleranceOf
set_option maxRecDepth 20000 in
theorem ggX9_device_X0_isOn : GoodIn wsX9_device wsX0_isOn := goodIn_r _ [41, 42, 27, 3, 4, 5, 6, 7, 103, 104, 105, 106, 107] (by decide +kernel) (by decide +kernel)
set_option maxRecDepth 20000 in
theorem gX9_device_X0_isOn : GoodIn wsX9_device (wsV RX9 178 RX0 yX0_isOn wsX0_isOn) := goodIn_app (goodIn_of _ (by decide +kernel)) ggX9_device_X0_isOn
set_option maxRecDepth 20000 in
theorem ggX9_device_X7_keysAcceptedBy : GoodIn wsX9_device wsX7_keysAcceptedBy := goodIn_r _ [47, 48, 49, 50, 51, 52, 46, 53, 54, 55, 56, 57, 58, 59, 60, 61, 62, 63, 64, 65, 66, 67, 68, 69, 70, 71, 72, 73, 74, 75, 76, 77, 5, 78, 26, 79, 80, 81, 82, 32, 37, 27, 3, 4, 6, 7, 83, 84, 85, 86, 87, 88, 89, 96, 97, 98, 99, 100, 101, 102, 108, 109, 110, 111, 112, 113, 103, 104, 105, 106, 107] (by decide +kernel) (by decide +kernel)
set_option maxRecDepth 20000 in
theorem gX9_device_X7_keysAcceptedBy : GoodIn wsX9_device (wsV RX9 181 RX7 yX7_keysAcceptedBy wsX7_keysAcceptedBy) := goodIn_app (goodIn_of _ (by decide +kernel)) ggX9_device_X7_keysAcceptedBy
theorem dX9_device_0 : decode cX9_device 0 = .ok (.aload_n 0, 1) := by decide +kernel
theorem dX9_device_1 : decode cX9_device 1 = .ok (.getfield 10, 3) := by decide +kernel
theorem dX9_device_4 : decode cX9_device 4 = .ok (.getfield 96, 3) := by decide +kernel
theorem dX9_device_7 : decode cX9_device 7 = .ok (.iload_n 1, 1) := by decide +kernel
theorem dX9_device_8 : decode cX9_device 8 = .ok (.invokevirtual 172, 3) := by decide +kernel
theorem dX9_device_11 : decode cX9_device 11 = .ok (.invokestatic 154, 3) := by decide +kernel
theorem dX9_device_14 : decode cX9_device 14 = .ok (.iload_n 2, 1) := by decide +kernel
theorem dX9_device_15 : decode cX9_device 15 = .ok (.iconst 0, 1) := by decide +kernel
theorem dX9_device_16 : decode cX9_device 16 = .ok (.iconst 4, 1) := by decide +kernel
theorem dX9_device_17 : decode cX9_device 17 = .ok (.invokestatic 47, 3) := by decide +kernel
theorem dX9_device_20 : decode cX9_device 20 = .ok (.invokestatic 51, 3) := by decide +kernel
theorem dX9_device_23 : decode cX9_device 23 = .ok (.iload_n 2, 1) := by decide +kernel
theorem dX9_device_24 : decode cX9_device 24 = .ok (.tableswitch 88 0 3 #[32, 44, 56, 68], 32) := by decide +kernel
theorem dX9_device_56 : decode cX9_device 56 = .ok (.aload_n 0, 1) := by decide +kernel
theorem dX9_device_57 : decode cX9_device 57 = .ok (.getfield 10, 3) := by decide +kernel
theorem dX9_device_60 : decode cX9_device 60 = .ok (.getfield 96, 3) := by decide +kernel
theorem dX9_device_63 : decode cX9_device 63 = .ok (.iload_n 1, 1) := by decide +kernel
theorem dX9_device_64 : decode cX9_device 64 = .ok (.invokevirtual 173, 3) := by decide +kernel
theorem dX9_device_67 : decode cX9_device 67 = .ok (.ireturn, 1) := by decide +kernel
theorem dX9_device_68 : decode cX9_device 68 = .ok (.aload_n 0, 1) := by decide +kernel
theorem dX9_device_69 : decode cX9_device 69 = .ok (.getfield 10, 3) := by decide +kernel
theorem dX9_device_72 : decode cX9_device 72 = .ok (.getfield 96, 3) := by decide +kernel
theorem dX9_device_75 : decode cX9_device 75 = .ok (.iload_n 1, 1) := by decide +kernel
theorem dX9_device_76 : decode cX9_device 76 = .ok (.invokevirtual 174, 3) := by decide +kernel
theorem dX9_device_79 : decode cX9_device 79 = .ok (.ireturn, 1) := by decide +kernel
theorem dX9_device_80 : decode cX9_device 80 = .ok (.aload_n 0, 1) := by decide +kernel
theorem dX9_device_81 : decode cX9_device 81 = .ok (.getfield 10, 3) := by decide +kernel
theorem dX9_device_84 : decode cX9_device 84 = .ok (.getfield 96, 3) := by decide +kernel
theorem dX9_device_87 : decode cX9_device 87 = .ok (.iload_n 1, 1) := by decide +kernel
theorem dX9_device_88 : decode cX9_device 88 = .ok (.invokevirtual 175, 3) := by decide +kernel
theorem dX9_device_91 : decode cX9_device 91 = .ok (.ireturn, 1) := by decide +kernel
theorem dX9_device_92 : decode cX9_device 92 = .ok (.aload_n 0, 1) := by decide +kernel
theorem dX9_device_93 : decode cX9_device 93 = .ok (.getfield 10, 3) := by decide +kernel
theorem dX9_device_96 : decode cX9_device 96 = .ok (.getfield 96, 3) := by decide +kernel
theorem dX9_device_99 : decode cX9_device 99 = .ok (.iload_n 1, 1) := by decide +kernel
theorem dX9_device_100 : decode cX9_device 100 = .ok (.invokevirtual 178, 3) := by decide +kernel
theorem dX9_device_103 : decode cX9_device 103 = .ok (.ifCond .eq 7, 3) := by decide +kernel
theorem dX9_device_106 : decode cX9_device 106 = .ok (.iconst 1, 1) := by decide +kernel
theorem dX9_device_107 : decode cX9_device 107 = .ok (.goto 4, 3) := by decide +kernel
theorem dX9_device_110 : decode cX9_device 110 = .ok (.iconst 0, 1) := by decide +kernel
theorem dX9_device_111 : decode cX9_device 111 = .ok (.ireturn, 1) := by decide +kernel
theorem dX9_device_112 : decode cX9_device 112 = .ok (.aload_n 0, 1) := by decide +kernel
theorem dX9_device_113 : decode cX9_device 113 = .ok (.getfield 10, 3) := by decide +kernel
theorem dX9_device_116 : decode cX9_device 116 = .ok (.iload_n 1, 1) := by decide +kernel
theorem dX9_device_117 : decode cX9_device 117 = .ok (.invokevirtual 181, 3) := by decide +kernel
theorem dX9_device_120 : decode cX9_device 120 = .ok (.ireturn, 1) := by decide +kernel
set_option maxRecDepth 20000 in
theorem ggX9_trace_X9_requireKey : GoodIn wsX9_trace wsX9_requireKey := goodIn_ca (goodIn_r _ [6, 1, 7, 8, 9, 10, 11, 12, 13, 14, 5, 15, 16, 17, 48, 49, 50, 51, 52, 53, 54, 55, 56, 57, 58, 59, 60] (by decide +kernel) (by decide +kernel)) (goodIn_sub (fun _ h => List.mem_cons_of_mem _ (List.mem_append_left _ (List.mem_append_right _ h))) (by decide +kernel))
set_option maxRecDepth 20000 in
theorem gX9_trace_X9_requireKey : GoodIn wsX9_trace (wsV RX9 124 RX9 yX9_requireKey wsX9_requireKey) := goodIn_app (goodIn_of _ (by decide +kernel)) ggX9_trace_X9_requireKey
set_option maxRecDepth 20000 in
theorem ggX9_trace_X9_requireArgument : GoodIn wsX9_trace wsX9_requireArgument := goodIn_ca (goodIn_r _ [20, 21, 22] (by decide +kernel) (by decide +kernel)) (goodIn_sub (fun _ h => List.mem_cons_of_mem _ (List.mem_append_right _ h)) (by decide +kernel))
set_option maxRecDepth 20000 in
theorem gX9_trace_X9_requireArgument : GoodIn wsX9_trace (va_wsS RX9 51 yX9_requireArgument wsX9_requireArgument) := goodIn_app (goodIn_of _ (by decide +kernel)) ggX9_trace_X9_requireArgument
set_option maxRecDepth 20000 in
theorem ggX9_trace_X7_recordOf : GoodIn wsX9_trace wsX7_recordOf := goodIn_r _ [26, 27, 28, 8, 9, 10, 11, 12, 54, 55, 56, 57, 58, 59, 60] (by decide +kernel) (by decide +kernel)
set_option maxRecDepth 20000 in
theorem gX9_trace_X7_recordOf : GoodIn wsX9_trace (wsV RX9 128 RX7 yX7_recordOf wsX7_recordOf) := goodIn_app (goodIn_of _ (by decide +kernel)) ggX9_trace_X7_recordOf
set_option maxRecDepth 20000 in
theorem ggX9_trace_X4_ancestorOf : GoodIn wsX9_trace wsX4_ancestorOf := goodIn_r _ [33, 34, 35, 36, 37, 38, 39, 40, 32, 41, 42, 43, 44, 45, 46, 47, 61, 62, 63, 64, 65, 66] (by decide +kernel) (by decide +kernel)
set_option maxRecDepth 20000 in
theorem gX9_trace_X4_ancestorOf : GoodIn wsX9_trace (wsV RX9 184 RX4 yX4_ancestorOf wsX4_ancestorOf) := goodIn_app (goodIn_of _ (by decide +kernel)) ggX9_trace_X4_ancestorOf
theorem dX9_trace_0 : decode cX9_trace 0 = .ok (.aload_n 0, 1) := by decide +kernel
theorem dX9_trace_1 : decode cX9_trace 1 = .ok (.iload_n 1, 1) := by decide +kernel
theorem dX9_trace_2 : decode cX9_trace 2 = .ok (.iload_n 2, 1) := by decide +kernel
theorem dX9_trace_3 : decode cX9_trace 3 = .ok (.invokevirtual 124, 3) := by decide +kernel
theorem dX9_trace_6 : decode cX9_trace 6 = .ok (.iload_n 3, 1) := by decide +kernel
theorem dX9_trace_7 : decode cX9_trace 7 = .ok (.ifCond .lt 7, 3) := by decide +kernel
theorem dX9_trace_10 : decode cX9_trace 10 = .ok (.iconst 1, 1) := by decide +kernel
theorem dX9_trace_11 : decode cX9_trace 11 = .ok (.goto 4, 3) := by decide +kernel
theorem dX9_trace_14 : decode cX9_trace 14 = .ok (.iconst 0, 1) := by decide +kernel
theorem dX9_trace_15 : decode cX9_trace 15 = .ok (.invokestatic 51, 3) := by decide +kernel
theorem dX9_trace_18 : decode cX9_trace 18 = .ok (.aload_n 0, 1) := by decide +kernel
theorem dX9_trace_19 : decode cX9_trace 19 = .ok (.getfield 10, 3) := by decide +kernel
theorem dX9_trace_22 : decode cX9_trace 22 = .ok (.getfield 84, 3) := by decide +kernel
theorem dX9_trace_25 : decode cX9_trace 25 = .ok (.aload_n 0, 1) := by decide +kernel
theorem dX9_trace_26 : decode cX9_trace 26 = .ok (.getfield 10, 3) := by decide +kernel
theorem dX9_trace_29 : decode cX9_trace 29 = .ok (.iload_n 1, 1) := by decide +kernel
theorem dX9_trace_30 : decode cX9_trace 30 = .ok (.iload_n 2, 1) := by decide +kernel
theorem dX9_trace_31 : decode cX9_trace 31 = .ok (.invokevirtual 128, 3) := by decide +kernel
theorem dX9_trace_34 : decode cX9_trace 34 = .ok (.iload_n 3, 1) := by decide +kernel
theorem dX9_trace_35 : decode cX9_trace 35 = .ok (.invokevirtual 184, 3) := by decide +kernel
theorem dX9_trace_38 : decode cX9_trace 38 = .ok (.ireturn, 1) := by decide +kernel
set_option maxRecDepth 20000 in
theorem ggX9_wentWrong_X9_requireKey : GoodIn wsX9_wentWrong wsX9_requireKey := goodIn_ca (goodIn_r _ [6, 1, 7, 8, 9, 10, 11, 12, 13, 14, 5, 15, 16, 17, 44, 45, 46, 47, 48, 49, 50, 51, 52, 53, 54, 55, 56] (by decide +kernel) (by decide +kernel)) (goodIn_sub (fun _ h => List.mem_cons_of_mem _ (List.mem_append_right _ h)) (by decide +kernel))
set_option maxRecDepth 20000 in
theorem gX9_wentWrong_X9_requireKey : GoodIn wsX9_wentWrong (wsV RX9 124 RX9 yX9_requireKey wsX9_requireKey) := goodIn_app (goodIn_of _ (by decide +kernel)) ggX9_wentWrong_X9_requireKey
set_option maxRecDepth 20000 in
theorem ggX9_wentWrong_X7_recordOf : GoodIn wsX9_wentWrong wsX7_recordOf := goodIn_r _ [21, 22, 23, 8, 9, 10, 11, 12, 50, 51, 52, 53, 54, 55, 56] (by decide +kernel) (by decide +kernel)
set_option maxRecDepth 20000 in
theorem gX9_wentWrong_X7_recordOf : GoodIn wsX9_wentWrong (wsV RX9 128 RX7 yX7_recordOf wsX7_recordOf) := goodIn_app (goodIn_of _ (by decide +kernel)) ggX9_wentWrong_X7_recordOf
set_option maxRecDepth 20000 in
theorem ggX9_wentWrong_X4_firstWrongInChain : GoodIn wsX9_wentWrong wsX4_firstWrongInChain := goodIn_r _ [28, 29, 30, 31, 27, 32, 33, 34, 35, 36, 37, 38, 39, 40, 41, 42, 43, 57, 58, 59, 60, 61, 62] (by decide +kernel) (by decide +kernel)
set_option maxRecDepth 20000 in
theorem gX9_wentWrong_X4_firstWrongInChain : GoodIn wsX9_wentWrong (wsV RX9 187 RX4 yX4_firstWrongInChain wsX4_firstWrongInChain) := goodIn_app (goodIn_of _ (by decide +kernel)) ggX9_wentWrong_X4_firstWrongInChain
theorem dX9_wentWrong_0 : decode cX9_wentWrong 0 = .ok (.aload_n 0, 1) := by decide +kernel
theorem dX9_wentWrong_1 : decode cX9_wentWrong 1 = .ok (.iload_n 1, 1) := by decide +kernel
theorem dX9_wentWrong_2 : decode cX9_wentWrong 2 = .ok (.iload_n 2, 1) := by decide +kernel
theorem dX9_wentWrong_3 : decode cX9_wentWrong 3 = .ok (.invokevirtual 124, 3) := by decide +kernel
theorem dX9_wentWrong_6 : decode cX9_wentWrong 6 = .ok (.aload_n 0, 1) := by decide +kernel
theorem dX9_wentWrong_7 : decode cX9_wentWrong 7 = .ok (.getfield 10, 3) := by decide +kernel
theorem dX9_wentWrong_10 : decode cX9_wentWrong 10 = .ok (.getfield 84, 3) := by decide +kernel
theorem dX9_wentWrong_13 : decode cX9_wentWrong 13 = .ok (.aload_n 0, 1) := by decide +kernel
theorem dX9_wentWrong_14 : decode cX9_wentWrong 14 = .ok (.getfield 10, 3) := by decide +kernel
theorem dX9_wentWrong_17 : decode cX9_wentWrong 17 = .ok (.iload_n 1, 1) := by decide +kernel
theorem dX9_wentWrong_18 : decode cX9_wentWrong 18 = .ok (.iload_n 2, 1) := by decide +kernel
theorem dX9_wentWrong_19 : decode cX9_wentWrong 19 = .ok (.invokevirtual 128, 3) := by decide +kernel
theorem dX9_wentWrong_22 : decode cX9_wentWrong 22 = .ok (.invokevirtual 187, 3) := by decide +kernel
theorem dX9_wentWrong_25 : decode cX9_wentWrong 25 = .ok (.ireturn, 1) := by decide +kernel
set_option maxRecDepth 20000 in
theorem ggX9_common_X9_requireKey : GoodIn wsX9_common wsX9_requireKey := goodIn_ca (goodIn_r _ [6, 1, 7, 8, 9, 10, 11, 12, 13, 14, 5, 15, 16, 17, 43, 44, 45, 46, 47, 48, 49, 50, 51, 52, 53, 54, 55] (by decide +kernel) (by decide +kernel)) (goodIn_sub (fun _ h => List.mem_cons_of_mem _ (List.mem_append_right _ h)) (by decide +kernel))
set_option maxRecDepth 20000 in
theorem gX9_common_X9_requireKey : GoodIn wsX9_common (wsV RX9 124 RX9 yX9_requireKey wsX9_requireKey) := goodIn_app (goodIn_of _ (by decide +kernel)) ggX9_common_X9_requireKey
set_option maxRecDepth 20000 in
theorem ggX9_common_X7_recordOf : GoodIn wsX9_common wsX7_recordOf := goodIn_r _ [21, 22, 23, 8, 9, 10, 11, 12, 49, 50, 51, 52, 53, 54, 55] (by decide +kernel) (by decide +kernel)
set_option maxRecDepth 20000 in
theorem gX9_common_X7_recordOf : GoodIn wsX9_common (wsV RX9 128 RX7 yX7_recordOf wsX7_recordOf) := goodIn_app (goodIn_of _ (by decide +kernel)) ggX9_common_X7_recordOf
set_option maxRecDepth 20000 in
theorem ggX9_common_X4_meetingOf : GoodIn wsX9_common wsX4_meetingOf := goodIn_r _ [28, 29, 30, 31, 27, 32, 33, 34, 35, 36, 37, 38, 39, 40, 41, 42, 56, 57, 58, 59, 60, 61] (by decide +kernel) (by decide +kernel)
set_option maxRecDepth 20000 in
theorem gX9_common_X4_meetingOf : GoodIn wsX9_common (wsV RX9 190 RX4 yX4_meetingOf wsX4_meetingOf) := goodIn_app (goodIn_of _ (by decide +kernel)) ggX9_common_X4_meetingOf
theorem dX9_common_0 : decode cX9_common 0 = .ok (.aload_n 0, 1) := by decide +kernel
theorem dX9_common_1 : decode cX9_common 1 = .ok (.iload_n 1, 1) := by decide +kernel
theorem dX9_common_2 : decode cX9_common 2 = .ok (.iload_n 2, 1) := by decide +kernel
theorem dX9_common_3 : decode cX9_common 3 = .ok (.invokevirtual 124, 3) := by decide +kernel
theorem dX9_common_6 : decode cX9_common 6 = .ok (.aload_n 0, 1) := by decide +kernel
theorem dX9_common_7 : decode cX9_common 7 = .ok (.iload_n 3, 1) := by decide +kernel
theorem dX9_common_8 : decode cX9_common 8 = .ok (.iload 4, 2) := by decide +kernel
theorem dX9_common_10 : decode cX9_common 10 = .ok (.invokevirtual 124, 3) := by decide +kernel
theorem dX9_common_13 : decode cX9_common 13 = .ok (.aload_n 0, 1) := by decide +kernel
theorem dX9_common_14 : decode cX9_common 14 = .ok (.getfield 10, 3) := by decide +kernel
theorem dX9_common_17 : decode cX9_common 17 = .ok (.getfield 84, 3) := by decide +kernel
theorem dX9_common_20 : decode cX9_common 20 = .ok (.aload_n 0, 1) := by decide +kernel
theorem dX9_common_21 : decode cX9_common 21 = .ok (.getfield 10, 3) := by decide +kernel
theorem dX9_common_24 : decode cX9_common 24 = .ok (.iload_n 1, 1) := by decide +kernel
theorem dX9_common_25 : decode cX9_common 25 = .ok (.iload_n 2, 1) := by decide +kernel
theorem dX9_common_26 : decode cX9_common 26 = .ok (.invokevirtual 128, 3) := by decide +kernel
theorem dX9_common_29 : decode cX9_common 29 = .ok (.aload_n 0, 1) := by decide +kernel
theorem dX9_common_30 : decode cX9_common 30 = .ok (.getfield 10, 3) := by decide +kernel
theorem dX9_common_33 : decode cX9_common 33 = .ok (.iload_n 3, 1) := by decide +kernel
theorem dX9_common_34 : decode cX9_common 34 = .ok (.iload 4, 2) := by decide +kernel
theorem dX9_common_36 : decode cX9_common 36 = .ok (.invokevirtual 128, 3) := by decide +kernel
theorem dX9_common_39 : decode cX9_common 39 = .ok (.invokevirtual 190, 3) := by decide +kernel
theorem dX9_common_42 : decode cX9_common 42 = .ok (.ireturn, 1) := by decide +kernel
set_option maxRecDepth 20000 in
theorem ggX9_accepted_X9_requireKey : GoodIn wsX9_accepted wsX9_requireKey := goodIn_ca (goodIn_r _ [6, 1, 7, 8, 9, 10, 11, 12, 13, 14, 5, 15, 16, 17, 74, 75, 76, 77, 78, 79, 80, 81, 82, 83, 84, 85, 86] (by decide +kernel) (by decide +kernel)) (goodIn_sub (fun _ h => List.mem_cons_of_mem _ (List.mem_append_right _ h)) (by decide +kernel))
set_option maxRecDepth 20000 in
theorem gX9_accepted_X9_requireKey : GoodIn wsX9_accepted (wsV RX9 124 RX9 yX9_requireKey wsX9_requireKey) := goodIn_app (goodIn_of _ (by decide +kernel)) ggX9_accepted_X9_requireKey
set_option maxRecDepth 20000 in
theorem ggX9_accepted_X7_acceptingDevices : GoodIn wsX9_accepted wsX7_acceptingDevices := goodIn_r _ [21, 22, 23, 24, 25, 26, 10, 27, 28, 29, 30, 31, 32, 33, 34, 8, 9, 11, 12, 35, 36, 37, 38, 39, 40, 41, 42, 43, 44, 45, 46, 47, 48, 49, 50, 51, 52, 53, 54, 55, 56, 57, 58, 59, 60, 61, 62, 63, 64, 65, 66, 67, 68, 69, 70, 71, 72, 73, 80, 81, 82, 83, 84, 85, 86, 87, 88, 89, 90, 91, 92, 93, 94, 95, 96, 97] (by decide +kernel) (by decide +kernel)
set_option maxRecDepth 20000 in
theorem gX9_accepted_X7_acceptingDevices : GoodIn wsX9_accepted (wsV RX9 193 RX7 yX7_acceptingDevices wsX7_acceptingDevices) := goodIn_app (goodIn_of _ (by decide +kernel)) ggX9_accepted_X7_acceptingDevices
theorem dX9_accepted_0 : decode cX9_accepted 0 = .ok (.aload_n 0, 1) := by decide +kernel
theorem dX9_accepted_1 : decode cX9_accepted 1 = .ok (.iload_n 1, 1) := by decide +kernel
theorem dX9_accepted_2 : decode cX9_accepted 2 = .ok (.iload_n 2, 1) := by decide +kernel
theorem dX9_accepted_3 : decode cX9_accepted 3 = .ok (.invokevirtual 124, 3) := by decide +kernel
theorem dX9_accepted_6 : decode cX9_accepted 6 = .ok (.aload_n 0, 1) := by decide +kernel
theorem dX9_accepted_7 : decode cX9_accepted 7 = .ok (.getfield 10, 3) := by decide +kernel
theorem dX9_accepted_10 : decode cX9_accepted 10 = .ok (.iload_n 1, 1) := by decide +kernel
theorem dX9_accepted_11 : decode cX9_accepted 11 = .ok (.iload_n 2, 1) := by decide +kernel
theorem dX9_accepted_12 : decode cX9_accepted 12 = .ok (.invokevirtual 193, 3) := by decide +kernel
theorem dX9_accepted_15 : decode cX9_accepted 15 = .ok (.ireturn, 1) := by decide +kernel
set_option maxRecDepth 20000 in
theorem ggX9_enter_X9_requireKey : GoodIn wsX9_enter wsX9_requireKey := goodIn_ca (goodIn_r _ [7, 1, 8, 9, 10, 11, 12, 13, 14, 15, 6, 16, 17, 18, 106, 107, 108, 109, 110, 111, 112, 113, 114, 115, 116, 117, 118] (by decide +kernel) (by decide +kernel)) (goodIn_sub (fun _ h => List.mem_cons_of_mem _ (List.mem_append_left _ (List.mem_append_left _ (List.mem_append_right _ h)))) (by decide +kernel))
set_option maxRecDepth 20000 in
theorem gX9_enter_X9_requireKey : GoodIn wsX9_enter (wsV RX9 124 RX9 yX9_requireKey wsX9_requireKey) := goodIn_app (goodIn_of _ (by decide +kernel)) ggX9_enter_X9_requireKey
set_option maxRecDepth 20000 in
theorem ggX9_enter_X9_isCode : GoodIn wsX9_enter wsX9_isCode := goodIn_r _ [21, 22, 23, 6, 24] (by decide +kernel) (by decide +kernel)
set_option maxRecDepth 20000 in
theorem gX9_enter_X9_isCode : GoodIn wsX9_enter (va_wsS RX9 196 yX9_isCode wsX9_isCode) := goodIn_app (goodIn_of _ (by decide +kernel)) ggX9_enter_X9_isCode
set_option maxRecDepth 20000 in
theorem ggX9_enter_X9_requireArgument : GoodIn wsX9_enter wsX9_requireArgument := goodIn_ca (goodIn_r _ [27, 28, 29] (by decide +kernel) (by decide +kernel)) (goodIn_sub (fun _ h => List.mem_cons_of_mem _ (List.mem_append_left _ (List.mem_append_right _ h))) (by decide +kernel))
set_option maxRecDepth 20000 in
theorem gX9_enter_X9_requireArgument : GoodIn wsX9_enter (va_wsS RX9 51 yX9_requireArgument wsX9_requireArgument) := goodIn_app (goodIn_of _ (by decide +kernel)) ggX9_enter_X9_requireArgument
set_option maxRecDepth 20000 in
theorem ggX9_enter_X4_hasRoom : GoodIn wsX9_enter wsX4_hasRoom := goodIn_r _ [34, 35, 119, 120, 121, 122, 123, 124] (by decide +kernel) (by decide +kernel)
set_option maxRecDepth 20000 in
theorem gX9_enter_X4_hasRoom : GoodIn wsX9_enter (wsV RX9 199 RX4 yX4_hasRoom wsX4_hasRoom) := goodIn_app (goodIn_of _ (by decide +kernel)) ggX9_enter_X4_hasRoom
set_option maxRecDepth 20000 in
theorem ggX9_enter_X9_requireState : GoodIn wsX9_enter wsX9_requireState := goodIn_ca (goodIn_r _ [38, 39, 40] (by decide +kernel) (by decide +kernel)) (goodIn_sub (fun _ h => List.mem_cons_of_mem _ (List.mem_append_right _ h)) (by decide +kernel))
set_option maxRecDepth 20000 in
theorem gX9_enter_X9_requireState : GoodIn wsX9_enter (va_wsS RX9 59 yX9_requireState wsX9_requireState) := goodIn_app (goodIn_of _ (by decide +kernel)) ggX9_enter_X9_requireState
set_option maxRecDepth 20000 in
theorem ggX9_enter_X1_remember : GoodIn wsX9_enter wsX1_remember := goodIn_r _ [45, 46, 47, 48, 49, 50, 44, 51, 52, 53, 54, 55, 56, 57, 58, 59, 11, 60, 61, 62, 63, 64, 65, 66, 67, 13, 68, 69, 70, 71, 72, 73, 33, 74, 75, 76, 77, 78, 79, 80, 35, 81, 82, 83, 84, 85, 86, 87, 88, 89, 90, 91, 125, 126, 127, 112, 113, 114, 115, 116, 117, 118, 119, 120, 121, 122, 123, 124, 128, 129, 130, 131, 132] (by decide +kernel) (by decide +kernel)
set_option maxRecDepth 20000 in
theorem gX9_enter_X1_remember : GoodIn wsX9_enter (wsV RX9 202 RX1 yX1_remember wsX1_remember) := goodIn_app (goodIn_of _ (by decide +kernel)) ggX9_enter_X1_remember
set_option maxRecDepth 20000 in
theorem ggX9_enter_X7_enterCode : GoodIn wsX9_enter wsX7_enterCode := goodIn_r _ [95, 61, 96, 97, 98, 33, 99, 35, 75, 77, 78, 79, 80, 100, 31, 32, 34, 101, 102, 103, 11, 104, 63, 105, 9, 10, 12, 13, 112, 113, 114, 115, 116, 117, 118, 119, 120, 121, 122, 123, 124] (by decide +kernel) (by decide +kernel)
set_option maxRecDepth 20000 in
theorem gX9_enter_X7_enterCode : GoodIn wsX9_enter (wsV RX9 205 RX7 yX7_enterCode wsX7_enterCode) := goodIn_app (goodIn_of _ (by decide +kernel)) ggX9_enter_X7_enterCode
theorem dX9_enter_0 : decode cX9_enter 0 = .ok (.aload_n 0, 1) := by decide +kernel
theorem dX9_enter_1 : decode cX9_enter 1 = .ok (.iload_n 1, 1) := by decide +kernel
theorem dX9_enter_2 : decode cX9_enter 2 = .ok (.iload_n 2, 1) := by decide +kernel
theorem dX9_enter_3 : decode cX9_enter 3 = .ok (.invokevirtual 124, 3) := by decide +kernel
theorem dX9_enter_6 : decode cX9_enter 6 = .ok (.iload_n 3, 1) := by decide +kernel
theorem dX9_enter_7 : decode cX9_enter 7 = .ok (.invokestatic 196, 3) := by decide +kernel
theorem dX9_enter_10 : decode cX9_enter 10 = .ok (.invokestatic 51, 3) := by decide +kernel
theorem dX9_enter_13 : decode cX9_enter 13 = .ok (.aload_n 0, 1) := by decide +kernel
theorem dX9_enter_14 : decode cX9_enter 14 = .ok (.getfield 10, 3) := by decide +kernel
theorem dX9_enter_17 : decode cX9_enter 17 = .ok (.getfield 84, 3) := by decide +kernel
theorem dX9_enter_20 : decode cX9_enter 20 = .ok (.invokevirtual 199, 3) := by decide +kernel
theorem dX9_enter_23 : decode cX9_enter 23 = .ok (.invokestatic 59, 3) := by decide +kernel
theorem dX9_enter_26 : decode cX9_enter 26 = .ok (.aload_n 0, 1) := by decide +kernel
theorem dX9_enter_27 : decode cX9_enter 27 = .ok (.getfield 22, 3) := by decide +kernel
theorem dX9_enter_30 : decode cX9_enter 30 = .ok (.aload_n 0, 1) := by decide +kernel
theorem dX9_enter_31 : decode cX9_enter 31 = .ok (.getfield 10, 3) := by decide +kernel
theorem dX9_enter_34 : decode cX9_enter 34 = .ok (.invokevirtual 202, 3) := by decide +kernel
theorem dX9_enter_37 : decode cX9_enter 37 = .ok (.aload_n 0, 1) := by decide +kernel
theorem dX9_enter_38 : decode cX9_enter 38 = .ok (.getfield 10, 3) := by decide +kernel
theorem dX9_enter_41 : decode cX9_enter 41 = .ok (.iload_n 1, 1) := by decide +kernel
theorem dX9_enter_42 : decode cX9_enter 42 = .ok (.iload_n 2, 1) := by decide +kernel
theorem dX9_enter_43 : decode cX9_enter 43 = .ok (.iload_n 3, 1) := by decide +kernel
theorem dX9_enter_44 : decode cX9_enter 44 = .ok (.invokevirtual 205, 3) := by decide +kernel
theorem dX9_enter_47 : decode cX9_enter 47 = .ok (.ireturn, 1) := by decide +kernel
set_option maxRecDepth 20000 in
theorem ggX9_teach_X9_requireKey : GoodIn wsX9_teach wsX9_requireKey := goodIn_ca (goodIn_r _ [7, 1, 8, 9, 10, 11, 12, 13, 14, 15, 6, 16, 17, 18, 136, 137, 138, 139, 140, 141, 142, 143, 144, 145, 146, 147, 148] (by decide +kernel) (by decide +kernel)) (goodIn_sub (fun _ h => List.mem_cons_of_mem _ (List.mem_append_left _ (List.mem_append_left _ (List.mem_append_right _ h)))) (by decide +kernel))
set_option maxRecDepth 20000 in
theorem gX9_teach_X9_requireKey : GoodIn wsX9_teach (wsV RX9 124 RX9 yX9_requireKey wsX9_requireKey) := goodIn_app (goodIn_of _ (by decide +kernel)) ggX9_teach_X9_requireKey
set_option maxRecDepth 20000 in
theorem ggX9_teach_X9_requireArgument : GoodIn wsX9_teach wsX9_requireArgument := goodIn_ca (goodIn_r _ [21, 22, 23] (by decide +kernel) (by decide +kernel)) (goodIn_sub (fun _ h => List.mem_cons_of_mem _ (List.mem_append_left _ (List.mem_append_right _ h))) (by decide +kernel))
set_option maxRecDepth 20000 in
theorem gX9_teach_X9_requireArgument : GoodIn wsX9_teach (va_wsS RX9 51 yX9_requireArgument wsX9_requireArgument) := goodIn_app (goodIn_of _ (by decide +kernel)) ggX9_teach_X9_requireArgument
set_option maxRecDepth 20000 in
theorem ggX9_teach_X7_canTeach : GoodIn wsX9_teach wsX7_canTeach := goodIn_r _ [27, 28, 29, 30, 31, 11, 32, 33, 34, 35, 36, 37, 38, 9, 10, 12, 13, 39, 40, 41, 42, 43, 44, 142, 143, 144, 145, 146, 147, 148, 149, 150, 151, 152, 153, 154] (by decide +kernel) (by decide +kernel)
set_option maxRecDepth 20000 in
theorem gX9_teach_X7_canTeach : GoodIn wsX9_teach (wsV RX9 209 RX7 yX7_canTeach wsX7_canTeach) := goodIn_app (goodIn_of _ (by decide +kernel)) ggX9_teach_X7_canTeach
set_option maxRecDepth 20000 in
theorem ggX9_teach_X9_requireState : GoodIn wsX9_teach wsX9_requireState := goodIn_ca (goodIn_r _ [47, 48, 49] (by decide +kernel) (by decide +kernel)) (goodIn_sub (fun _ h => List.mem_cons_of_mem _ (List.mem_append_right _ h)) (by decide +kernel))
set_option maxRecDepth 20000 in
theorem gX9_teach_X9_requireState : GoodIn wsX9_teach (va_wsS RX9 59 yX9_requireState wsX9_requireState) := goodIn_app (goodIn_of _ (by decide +kernel)) ggX9_teach_X9_requireState
set_option maxRecDepth 20000 in
theorem ggX9_teach_X1_remember : GoodIn wsX9_teach wsX1_remember := goodIn_r _ [54, 55, 56, 57, 58, 59, 53, 60, 61, 62, 63, 64, 65, 66, 67, 68, 11, 69, 28, 70, 37, 71, 72, 73, 74, 13, 75, 76, 77, 78, 79, 80, 42, 81, 82, 83, 84, 85, 86, 87, 44, 88, 89, 90, 91, 92, 93, 94, 95, 96, 97, 98, 155, 156, 157, 142, 143, 144, 145, 146, 147, 148, 149, 150, 151, 152, 153, 154, 158, 159, 160, 161, 162] (by decide +kernel) (by decide +kernel)
set_option maxRecDepth 20000 in
theorem gX9_teach_X1_remember : GoodIn wsX9_teach (wsV RX9 202 RX1 yX1_remember wsX1_remember) := goodIn_app (goodIn_of _ (by decide +kernel)) ggX9_teach_X1_remember
set_option maxRecDepth 20000 in
theorem ggX9_teach_X7_teachKey : GoodIn wsX9_teach wsX7_teachKey := goodIn_r _ [102, 77, 75, 103, 104, 105, 106, 28, 107, 108, 109, 110, 111, 112, 33, 34, 35, 11, 36, 37, 38, 9, 10, 12, 13, 113, 114, 115, 116, 117, 118, 42, 119, 82, 120, 121, 122, 123, 44, 124, 125, 126, 127, 128, 129, 130, 84, 85, 86, 87, 131, 40, 41, 43, 132, 133, 134, 135, 142, 143, 144, 145, 146, 147, 148, 149, 150, 151, 152, 153, 154] (by decide +kernel) (by decide +kernel)
set_option maxRecDepth 20000 in
theorem gX9_teach_X7_teachKey : GoodIn wsX9_teach (wsV RX9 213 RX7 yX7_teachKey wsX7_teachKey) := goodIn_app (goodIn_of _ (by decide +kernel)) ggX9_teach_X7_teachKey
theorem dX9_teach_0 : decode cX9_teach 0 = .ok (.aload_n 0, 1) := by decide +kernel
theorem dX9_teach_1 : decode cX9_teach 1 = .ok (.iload_n 1, 1) := by decide +kernel
theorem dX9_teach_2 : decode cX9_teach 2 = .ok (.iload_n 2, 1) := by decide +kernel
theorem dX9_teach_3 : decode cX9_teach 3 = .ok (.invokevirtual 124, 3) := by decide +kernel
theorem dX9_teach_6 : decode cX9_teach 6 = .ok (.aload_n 0, 1) := by decide +kernel
theorem dX9_teach_7 : decode cX9_teach 7 = .ok (.iload_n 3, 1) := by decide +kernel
theorem dX9_teach_8 : decode cX9_teach 8 = .ok (.iload 4, 2) := by decide +kernel
theorem dX9_teach_10 : decode cX9_teach 10 = .ok (.invokevirtual 124, 3) := by decide +kernel
theorem dX9_teach_13 : decode cX9_teach 13 = .ok (.iload_n 1, 1) := by decide +kernel
theorem dX9_teach_14 : decode cX9_teach 14 = .ok (.iload_n 3, 1) := by decide +kernel
theorem dX9_teach_15 : decode cX9_teach 15 = .ok (.if_icmp .ne 9, 3) := by decide +kernel
theorem dX9_teach_18 : decode cX9_teach 18 = .ok (.iload_n 2, 1) := by decide +kernel
theorem dX9_teach_19 : decode cX9_teach 19 = .ok (.iload 4, 2) := by decide +kernel
theorem dX9_teach_21 : decode cX9_teach 21 = .ok (.if_icmp .eq 7, 3) := by decide +kernel
theorem dX9_teach_24 : decode cX9_teach 24 = .ok (.iconst 1, 1) := by decide +kernel
theorem dX9_teach_25 : decode cX9_teach 25 = .ok (.goto 4, 3) := by decide +kernel
theorem dX9_teach_28 : decode cX9_teach 28 = .ok (.iconst 0, 1) := by decide +kernel
theorem dX9_teach_29 : decode cX9_teach 29 = .ok (.invokestatic 51, 3) := by decide +kernel
theorem dX9_teach_32 : decode cX9_teach 32 = .ok (.aload_n 0, 1) := by decide +kernel
theorem dX9_teach_33 : decode cX9_teach 33 = .ok (.getfield 10, 3) := by decide +kernel
theorem dX9_teach_36 : decode cX9_teach 36 = .ok (.iload_n 1, 1) := by decide +kernel
theorem dX9_teach_37 : decode cX9_teach 37 = .ok (.iload_n 2, 1) := by decide +kernel
theorem dX9_teach_38 : decode cX9_teach 38 = .ok (.invokevirtual 209, 3) := by decide +kernel
theorem dX9_teach_41 : decode cX9_teach 41 = .ok (.invokestatic 59, 3) := by decide +kernel
theorem dX9_teach_44 : decode cX9_teach 44 = .ok (.aload_n 0, 1) := by decide +kernel
theorem dX9_teach_45 : decode cX9_teach 45 = .ok (.getfield 22, 3) := by decide +kernel
theorem dX9_teach_48 : decode cX9_teach 48 = .ok (.aload_n 0, 1) := by decide +kernel
theorem dX9_teach_49 : decode cX9_teach 49 = .ok (.getfield 10, 3) := by decide +kernel
theorem dX9_teach_52 : decode cX9_teach 52 = .ok (.invokevirtual 202, 3) := by decide +kernel
theorem dX9_teach_55 : decode cX9_teach 55 = .ok (.aload_n 0, 1) := by decide +kernel
theorem dX9_teach_56 : decode cX9_teach 56 = .ok (.getfield 10, 3) := by decide +kernel
theorem dX9_teach_59 : decode cX9_teach 59 = .ok (.iload_n 1, 1) := by decide +kernel
theorem dX9_teach_60 : decode cX9_teach 60 = .ok (.iload_n 2, 1) := by decide +kernel
theorem dX9_teach_61 : decode cX9_teach 61 = .ok (.iload_n 3, 1) := by decide +kernel
theorem dX9_teach_62 : decode cX9_teach 62 = .ok (.iload 4, 2) := by decide +kernel
theorem dX9_teach_64 : decode cX9_teach 64 = .ok (.invokevirtual 213, 3) := by decide +kernel
theorem dX9_teach_67 : decode cX9_teach 67 = .ok (.ireturn, 1) := by decide +kernel
set_option maxRecDepth 20000 in
theorem ggX9_erase_X9_requireKey : GoodIn wsX9_erase wsX9_requireKey := goodIn_ca (goodIn_r _ [7, 2, 8, 9, 10, 11, 12, 13, 14, 15, 6, 16, 17, 18, 97, 98, 99, 100, 101, 102, 103, 104, 105, 106, 107, 108, 109] (by decide +kernel) (by decide +kernel)) (goodIn_sub (fun _ h => List.mem_cons_of_mem _ (List.mem_append_right _ h)) (by decide +kernel))
set_option maxRecDepth 20000 in
theorem gX9_erase_X9_requireKey : GoodIn wsX9_erase (wsV RX9 124 RX9 yX9_requireKey wsX9_requireKey) := goodIn_app (goodIn_of _ (by decide +kernel)) ggX9_erase_X9_requireKey
set_option maxRecDepth 20000 in
theorem ggX9_erase_X1_remember : GoodIn wsX9_erase wsX1_remember := goodIn_r _ [23, 24, 25, 26, 27, 28, 22, 29, 30, 31, 32, 33, 34, 35, 36, 37, 11, 38, 39, 40, 41, 42, 43, 44, 45, 13, 46, 47, 48, 49, 50, 51, 52, 53, 54, 55, 56, 57, 58, 59, 60, 61, 62, 63, 64, 65, 66, 67, 68, 69, 70, 71, 110, 111, 112, 103, 104, 105, 106, 107, 108, 109, 113, 114, 115, 116, 117, 118, 119, 120, 121, 122, 123] (by decide +kernel) (by decide +kernel)
set_option maxRecDepth 20000 in
theorem gX9_erase_X1_remember : GoodIn wsX9_erase (wsV RX9 202 RX1 yX1_remember wsX1_remember) := goodIn_app (goodIn_of _ (by decide +kernel)) ggX9_erase_X1_remember
set_option maxRecDepth 20000 in
theorem ggX9_erase_X7_eraseKey : GoodIn wsX9_erase wsX7_eraseKey := goodIn_r _ [75, 76, 77, 78, 11, 79, 39, 80, 81, 82, 83, 41, 84, 9, 10, 12, 13, 85, 86, 87, 52, 88, 54, 89, 90, 91, 92, 60, 93, 94, 95, 96, 103, 104, 105, 106, 107, 108, 109, 113, 114, 115, 116, 117, 118] (by decide +kernel) (by decide +kernel)
set_option maxRecDepth 20000 in
theorem gX9_erase_X7_eraseKey : GoodIn wsX9_erase (wsV RX9 217 RX7 yX7_eraseKey wsX7_eraseKey) := goodIn_app (goodIn_of _ (by decide +kernel)) ggX9_erase_X7_eraseKey
theorem dX9_erase_0 : decode cX9_erase 0 = .ok (.aload_n 0, 1) := by decide +kernel
theorem dX9_erase_1 : decode cX9_erase 1 = .ok (.iload_n 1, 1) := by decide +kernel
theorem dX9_erase_2 : decode cX9_erase 2 = .ok (.iload_n 2, 1) := by decide +kernel
theorem dX9_erase_3 : decode cX9_erase 3 = .ok (.invokevirtual 124, 3) := by decide +kernel
theorem dX9_erase_6 : decode cX9_erase 6 = .ok (.aload_n 0, 1) := by decide +kernel
theorem dX9_erase_7 : decode cX9_erase 7 = .ok (.getfield 22, 3) := by decide +kernel
theorem dX9_erase_10 : decode cX9_erase 10 = .ok (.aload_n 0, 1) := by decide +kernel
theorem dX9_erase_11 : decode cX9_erase 11 = .ok (.getfield 10, 3) := by decide +kernel
theorem dX9_erase_14 : decode cX9_erase 14 = .ok (.invokevirtual 202, 3) := by decide +kernel
theorem dX9_erase_17 : decode cX9_erase 17 = .ok (.aload_n 0, 1) := by decide +kernel
theorem dX9_erase_18 : decode cX9_erase 18 = .ok (.getfield 10, 3) := by decide +kernel
theorem dX9_erase_21 : decode cX9_erase 21 = .ok (.iload_n 1, 1) := by decide +kernel
theorem dX9_erase_22 : decode cX9_erase 22 = .ok (.iload_n 2, 1) := by decide +kernel
theorem dX9_erase_23 : decode cX9_erase 23 = .ok (.invokevirtual 217, 3) := by decide +kernel
theorem dX9_erase_26 : decode cX9_erase 26 = .ok (.ireturn, 1) := by decide +kernel
set_option maxRecDepth 20000 in
theorem ggX9_press_X9_requireKey : GoodIn wsX9_press wsX9_requireKey := goodIn_ca (goodIn_r _ [7, 1, 8, 9, 10, 11, 12, 13, 14, 15, 6, 16, 17, 18, 129, 130, 131, 132, 133, 134, 135, 136, 137, 138, 139, 140, 141] (by decide +kernel) (by decide +kernel)) (goodIn_sub (fun _ h => List.mem_cons_of_mem _ (List.mem_append_left _ (List.mem_append_right _ h))) (by decide +kernel))
set_option maxRecDepth 20000 in
theorem gX9_press_X9_requireKey : GoodIn wsX9_press (wsV RX9 124 RX9 yX9_requireKey wsX9_requireKey) := goodIn_app (goodIn_of _ (by decide +kernel)) ggX9_press_X9_requireKey
set_option maxRecDepth 20000 in
theorem ggX9_press_X7_hasCode : GoodIn wsX9_press wsX7_hasCode := goodIn_r _ [22, 23, 24, 25, 11, 26, 27, 28, 9, 10, 12, 13, 135, 136, 137, 138, 139, 140, 141] (by decide +kernel) (by decide +kernel)
set_option maxRecDepth 20000 in
theorem gX9_press_X7_hasCode : GoodIn wsX9_press (wsV RX9 220 RX7 yX7_hasCode wsX7_hasCode) := goodIn_app (goodIn_of _ (by decide +kernel)) ggX9_press_X7_hasCode
set_option maxRecDepth 20000 in
theorem ggX9_press_X9_requireState : GoodIn wsX9_press wsX9_requireState := goodIn_ca (goodIn_r _ [31, 32, 33] (by decide +kernel) (by decide +kernel)) (goodIn_sub (fun _ h => List.mem_cons_of_mem _ (List.mem_append_right _ h)) (by decide +kernel))
set_option maxRecDepth 20000 in
theorem gX9_press_X9_requireState : GoodIn wsX9_press (va_wsS RX9 59 yX9_requireState wsX9_requireState) := goodIn_app (goodIn_of _ (by decide +kernel)) ggX9_press_X9_requireState
set_option maxRecDepth 20000 in
theorem ggX9_press_X1_remember : GoodIn wsX9_press wsX1_remember := goodIn_r _ [38, 39, 40, 41, 42, 43, 37, 44, 45, 46, 47, 48, 49, 50, 51, 52, 11, 53, 54, 55, 27, 56, 57, 58, 59, 13, 60, 61, 62, 63, 64, 65, 66, 67, 68, 69, 70, 71, 72, 73, 74, 75, 76, 77, 78, 79, 80, 81, 82, 83, 84, 85, 142, 143, 144, 135, 136, 137, 138, 139, 140, 141, 145, 146, 147, 148, 149, 150, 151, 152, 153, 154, 155] (by decide +kernel) (by decide +kernel)
set_option maxRecDepth 20000 in
theorem gX9_press_X1_remember : GoodIn wsX9_press (wsV RX9 202 RX1 yX1_remember wsX1_remember) := goodIn_app (goodIn_of _ (by decide +kernel)) ggX9_press_X1_remember
set_option maxRecDepth 20000 in
theorem ggX9_press_X7_pressKey : GoodIn wsX9_press wsX7_pressKey := goodIn_r _ [89, 55, 61, 90, 91, 92, 11, 93, 54, 23, 24, 25, 26, 27, 28, 9, 10, 12, 13, 94, 95, 96, 66, 97, 68, 98, 99, 100, 101, 74, 102, 103, 104, 78, 105, 84, 106, 107, 108, 109, 80, 110, 111, 112, 113, 82, 83, 114, 115, 116, 117, 118, 119, 120, 121, 122, 123, 124, 125, 126, 127, 128, 85, 135, 136, 137, 138, 139, 140, 141, 145, 146, 147, 148, 149, 150, 151, 152, 153, 154, 155] (by decide +kernel) (by decide +kernel)
set_option maxRecDepth 20000 in
theorem gX9_press_X7_pressKey : GoodIn wsX9_press (wsV RX9 223 RX7 yX7_pressKey wsX7_pressKey) := goodIn_app (goodIn_of _ (by decide +kernel)) ggX9_press_X7_pressKey
theorem dX9_press_0 : decode cX9_press 0 = .ok (.aload_n 0, 1) := by decide +kernel
theorem dX9_press_1 : decode cX9_press 1 = .ok (.iload_n 1, 1) := by decide +kernel
theorem dX9_press_2 : decode cX9_press 2 = .ok (.iload_n 2, 1) := by decide +kernel
theorem dX9_press_3 : decode cX9_press 3 = .ok (.invokevirtual 124, 3) := by decide +kernel
theorem dX9_press_6 : decode cX9_press 6 = .ok (.aload_n 0, 1) := by decide +kernel
theorem dX9_press_7 : decode cX9_press 7 = .ok (.getfield 10, 3) := by decide +kernel
theorem dX9_press_10 : decode cX9_press 10 = .ok (.iload_n 1, 1) := by decide +kernel
theorem dX9_press_11 : decode cX9_press 11 = .ok (.iload_n 2, 1) := by decide +kernel
theorem dX9_press_12 : decode cX9_press 12 = .ok (.invokevirtual 220, 3) := by decide +kernel
theorem dX9_press_15 : decode cX9_press 15 = .ok (.invokestatic 59, 3) := by decide +kernel
theorem dX9_press_18 : decode cX9_press 18 = .ok (.aload_n 0, 1) := by decide +kernel
theorem dX9_press_19 : decode cX9_press 19 = .ok (.getfield 22, 3) := by decide +kernel
theorem dX9_press_22 : decode cX9_press 22 = .ok (.aload_n 0, 1) := by decide +kernel
theorem dX9_press_23 : decode cX9_press 23 = .ok (.getfield 10, 3) := by decide +kernel
theorem dX9_press_26 : decode cX9_press 26 = .ok (.invokevirtual 202, 3) := by decide +kernel
theorem dX9_press_29 : decode cX9_press 29 = .ok (.aload_n 0, 1) := by decide +kernel
theorem dX9_press_30 : decode cX9_press 30 = .ok (.getfield 10, 3) := by decide +kernel
theorem dX9_press_33 : decode cX9_press 33 = .ok (.iload_n 1, 1) := by decide +kernel
theorem dX9_press_34 : decode cX9_press 34 = .ok (.iload_n 2, 1) := by decide +kernel
theorem dX9_press_35 : decode cX9_press 35 = .ok (.invokevirtual 223, 3) := by decide +kernel
theorem dX9_press_38 : decode cX9_press 38 = .ok (.ireturn, 1) := by decide +kernel
set_option maxRecDepth 20000 in
theorem ggX9_addDevice_X7_hasHouse : GoodIn wsX9_addDevice wsX7_hasHouse := goodIn_r _ [7, 8, 102, 103, 104, 105, 106, 107, 108] (by decide +kernel) (by decide +kernel)
set_option maxRecDepth 20000 in
theorem gX9_addDevice_X7_hasHouse : GoodIn wsX9_addDevice (wsV RX9 226 RX7 yX7_hasHouse wsX7_hasHouse) := goodIn_app (goodIn_of _ (by decide +kernel)) ggX9_addDevice_X7_hasHouse
set_option maxRecDepth 20000 in
theorem ggX9_addDevice_X9_requirePlace : GoodIn wsX9_addDevice wsX9_requirePlace := goodIn_ca (goodIn_r _ [12, 13, 14] (by decide +kernel) (by decide +kernel)) (goodIn_sub (fun _ h => List.mem_cons_of_mem _ (List.mem_append_left _ (List.mem_append_left _ (List.mem_append_right _ h)))) (by decide +kernel))
set_option maxRecDepth 20000 in
theorem gX9_addDevice_X9_requirePlace : GoodIn wsX9_addDevice (va_wsS RX9 154 yX9_requirePlace wsX9_requirePlace) := goodIn_app (goodIn_of _ (by decide +kernel)) ggX9_addDevice_X9_requirePlace
set_option maxRecDepth 20000 in
theorem ggX9_addDevice_X9_isCode : GoodIn wsX9_addDevice wsX9_isCode := goodIn_r _ [17, 18, 19, 11, 20] (by decide +kernel) (by decide +kernel)
set_option maxRecDepth 20000 in
theorem gX9_addDevice_X9_isCode : GoodIn wsX9_addDevice (va_wsS RX9 196 yX9_isCode wsX9_isCode) := goodIn_app (goodIn_of _ (by decide +kernel)) ggX9_addDevice_X9_isCode
set_option maxRecDepth 20000 in
theorem ggX9_addDevice_X9_isTolerance : GoodIn wsX9_addDevice wsX9_isTolerance := goodIn_r _ [23, 18, 19, 11, 20] (by decide +kernel) (by decide +kernel)
set_option maxRecDepth 20000 in
theorem gX9_addDevice_X9_isTolerance : GoodIn wsX9_addDevice (va_wsS RX9 229 yX9_isTolerance wsX9_isTolerance) := goodIn_app (goodIn_of _ (by decide +kernel)) ggX9_addDevice_X9_isTolerance
set_option maxRecDepth 20000 in
theorem ggX9_addDevice_X9_requireArgument : GoodIn wsX9_addDevice wsX9_requireArgument := goodIn_ca (goodIn_r _ [26, 27, 28] (by decide +kernel) (by decide +kernel)) (goodIn_sub (fun _ h => List.mem_cons_of_mem _ (List.mem_append_left _ (List.mem_append_right _ h))) (by decide +kernel))
set_option maxRecDepth 20000 in
theorem gX9_addDevice_X9_requireArgument : GoodIn wsX9_addDevice (va_wsS RX9 51 yX9_requireArgument wsX9_requireArgument) := goodIn_app (goodIn_of _ (by decide +kernel)) ggX9_addDevice_X9_requireArgument
set_option maxRecDepth 20000 in
theorem ggX9_addDevice_X0_hasRoom : GoodIn wsX9_addDevice wsX0_hasRoom := goodIn_r _ [33, 34, 109, 110, 111, 112, 113] (by decide +kernel) (by decide +kernel)
set_option maxRecDepth 20000 in
theorem gX9_addDevice_X0_hasRoom : GoodIn wsX9_addDevice (wsV RX9 232 RX0 yX0_hasRoom wsX0_hasRoom) := goodIn_app (goodIn_of _ (by decide +kernel)) ggX9_addDevice_X0_hasRoom
set_option maxRecDepth 20000 in
theorem ggX9_addDevice_X9_requireState : GoodIn wsX9_addDevice wsX9_requireState := goodIn_ca (goodIn_r _ [37, 38, 39] (by decide +kernel) (by decide +kernel)) (goodIn_sub (fun _ h => List.mem_cons_of_mem _ (List.mem_append_right _ h)) (by decide +kernel))
set_option maxRecDepth 20000 in
theorem gX9_addDevice_X9_requireState : GoodIn wsX9_addDevice (va_wsS RX9 59 yX9_requireState wsX9_requireState) := goodIn_app (goodIn_of _ (by decide +kernel)) ggX9_addDevice_X9_requireState
set_option maxRecDepth 20000 in
theorem ggX9_addDevice_X1_remember : GoodIn wsX9_addDevice wsX1_remember := goodIn_r _ [44, 45, 46, 47, 48, 49, 43, 50, 51, 52, 53, 54, 55, 56, 57, 58, 6, 59, 60, 61, 62, 63, 64, 65, 66, 8, 67, 68, 69, 70, 71, 72, 73, 74, 75, 76, 77, 78, 79, 80, 81, 82, 83, 84, 32, 85, 86, 87, 88, 89, 34, 90, 114, 115, 116, 102, 103, 104, 105, 106, 107, 108, 117, 118, 119, 120, 121, 122, 109, 110, 111, 112, 113] (by decide +kernel) (by decide +kernel)
set_option maxRecDepth 20000 in
theorem gX9_addDevice_X1_remember : GoodIn wsX9_addDevice (wsV RX9 202 RX1 yX1_remember wsX1_remember) := goodIn_app (goodIn_of _ (by decide +kernel)) ggX9_addDevice_X1_remember
set_option maxRecDepth 20000 in
theorem ggX9_addDevice_X0_add : GoodIn wsX9_addDevice wsX0_add := goodIn_r _ [94, 34, 86, 88, 89, 95, 30, 31, 32, 33, 109, 110, 111, 112, 113] (by decide +kernel) (by decide +kernel)
set_option maxRecDepth 20000 in
theorem gX9_addDevice_X0_add : GoodIn wsX9_addDevice (wsV RX9 233 RX0 yX0_add wsX0_add) := goodIn_app (goodIn_of _ (by decide +kernel)) ggX9_addDevice_X0_add
theorem dX9_addDevice_0 : decode cX9_addDevice 0 = .ok (.aload_n 0, 1) := by decide +kernel
theorem dX9_addDevice_1 : decode cX9_addDevice 1 = .ok (.getfield 10, 3) := by decide +kernel
theorem dX9_addDevice_4 : decode cX9_addDevice 4 = .ok (.iload_n 1, 1) := by decide +kernel
theorem dX9_addDevice_5 : decode cX9_addDevice 5 = .ok (.invokevirtual 226, 3) := by decide +kernel
theorem dX9_addDevice_8 : decode cX9_addDevice 8 = .ok (.invokestatic 154, 3) := by decide +kernel
theorem dX9_addDevice_11 : decode cX9_addDevice 11 = .ok (.iload_n 2, 1) := by decide +kernel
theorem dX9_addDevice_12 : decode cX9_addDevice 12 = .ok (.invokestatic 196, 3) := by decide +kernel
theorem dX9_addDevice_15 : decode cX9_addDevice 15 = .ok (.ifCond .eq 14, 3) := by decide +kernel
theorem dX9_addDevice_18 : decode cX9_addDevice 18 = .ok (.iload_n 3, 1) := by decide +kernel
theorem dX9_addDevice_19 : decode cX9_addDevice 19 = .ok (.invokestatic 229, 3) := by decide +kernel
theorem dX9_addDevice_22 : decode cX9_addDevice 22 = .ok (.ifCond .eq 7, 3) := by decide +kernel
theorem dX9_addDevice_25 : decode cX9_addDevice 25 = .ok (.iconst 1, 1) := by decide +kernel
theorem dX9_addDevice_26 : decode cX9_addDevice 26 = .ok (.goto 4, 3) := by decide +kernel
theorem dX9_addDevice_29 : decode cX9_addDevice 29 = .ok (.iconst 0, 1) := by decide +kernel
theorem dX9_addDevice_30 : decode cX9_addDevice 30 = .ok (.invokestatic 51, 3) := by decide +kernel
theorem dX9_addDevice_33 : decode cX9_addDevice 33 = .ok (.aload_n 0, 1) := by decide +kernel
theorem dX9_addDevice_34 : decode cX9_addDevice 34 = .ok (.getfield 10, 3) := by decide +kernel
theorem dX9_addDevice_37 : decode cX9_addDevice 37 = .ok (.getfield 96, 3) := by decide +kernel
theorem dX9_addDevice_40 : decode cX9_addDevice 40 = .ok (.invokevirtual 232, 3) := by decide +kernel
theorem dX9_addDevice_43 : decode cX9_addDevice 43 = .ok (.invokestatic 59, 3) := by decide +kernel
theorem dX9_addDevice_46 : decode cX9_addDevice 46 = .ok (.aload_n 0, 1) := by decide +kernel
theorem dX9_addDevice_47 : decode cX9_addDevice 47 = .ok (.getfield 22, 3) := by decide +kernel
theorem dX9_addDevice_50 : decode cX9_addDevice 50 = .ok (.aload_n 0, 1) := by decide +kernel
theorem dX9_addDevice_51 : decode cX9_addDevice 51 = .ok (.getfield 10, 3) := by decide +kernel
theorem dX9_addDevice_54 : decode cX9_addDevice 54 = .ok (.invokevirtual 202, 3) := by decide +kernel
theorem dX9_addDevice_57 : decode cX9_addDevice 57 = .ok (.aload_n 0, 1) := by decide +kernel
theorem dX9_addDevice_58 : decode cX9_addDevice 58 = .ok (.getfield 10, 3) := by decide +kernel
theorem dX9_addDevice_61 : decode cX9_addDevice 61 = .ok (.getfield 96, 3) := by decide +kernel
theorem dX9_addDevice_64 : decode cX9_addDevice 64 = .ok (.iload_n 1, 1) := by decide +kernel
theorem dX9_addDevice_65 : decode cX9_addDevice 65 = .ok (.iload_n 2, 1) := by decide +kernel
theorem dX9_addDevice_66 : decode cX9_addDevice 66 = .ok (.iload_n 3, 1) := by decide +kernel
theorem dX9_addDevice_67 : decode cX9_addDevice 67 = .ok (.invokevirtual 233, 3) := by decide +kernel
theorem dX9_addDevice_70 : decode cX9_addDevice 70 = .ok (.ireturn, 1) := by decide +kernel
set_option maxRecDepth 20000 in
theorem ggX9_setTolerance_X0_has : GoodIn wsX9_setTolerance wsX0_has := goodIn_r _ [7, 8, 101, 102, 103, 104, 105] (by decide +kernel) (by decide +kernel)
set_option maxRecDepth 20000 in
theorem gX9_setTolerance_X0_has : GoodIn wsX9_setTolerance (wsV RX9 172 RX0 yX0_has wsX0_has) := goodIn_app (goodIn_of _ (by decide +kernel)) ggX9_setTolerance_X0_has
set_option maxRecDepth 20000 in
theorem ggX9_setTolerance_X9_requirePlace : GoodIn wsX9_setTolerance wsX9_requirePlace := goodIn_ca (goodIn_r _ [12, 13, 14] (by decide +kernel) (by decide +kernel)) (goodIn_sub (fun _ h => List.mem_cons_of_mem _ (List.mem_append_left _ (List.mem_append_right _ h))) (by decide +kernel))
set_option maxRecDepth 20000 in
theorem gX9_setTolerance_X9_requirePlace : GoodIn wsX9_setTolerance (va_wsS RX9 154 yX9_requirePlace wsX9_requirePlace) := goodIn_app (goodIn_of _ (by decide +kernel)) ggX9_setTolerance_X9_requirePlace
set_option maxRecDepth 20000 in
theorem ggX9_setTolerance_X9_isTolerance : GoodIn wsX9_setTolerance wsX9_isTolerance := goodIn_r _ [17, 18, 19, 11, 20] (by decide +kernel) (by decide +kernel)
set_option maxRecDepth 20000 in
theorem gX9_setTolerance_X9_isTolerance : GoodIn wsX9_setTolerance (va_wsS RX9 229 yX9_isTolerance wsX9_isTolerance) := goodIn_app (goodIn_of _ (by decide +kernel)) ggX9_setTolerance_X9_isTolerance
set_option maxRecDepth 20000 in
theorem ggX9_setTolerance_X9_requireArgument : GoodIn wsX9_setTolerance wsX9_requireArgument := goodIn_ca (goodIn_r _ [23, 24, 25] (by decide +kernel) (by decide +kernel)) (goodIn_sub (fun _ h => List.mem_cons_of_mem _ (List.mem_append_right _ h)) (by decide +kernel))
set_option maxRecDepth 20000 in
theorem gX9_setTolerance_X9_requireArgument : GoodIn wsX9_setTolerance (va_wsS RX9 51 yX9_requireArgument wsX9_requireArgument) := goodIn_app (goodIn_of _ (by decide +kernel)) ggX9_setTolerance_X9_requireArgument
set_option maxRecDepth 20000 in
theorem ggX9_setTolerance_X1_remember : GoodIn wsX9_setTolerance wsX1_remember := goodIn_r _ [30, 31, 32, 33, 34, 35, 29, 36, 37, 38, 39, 40, 41, 42, 43, 44, 45, 46, 47, 48, 49, 50, 51, 52, 53, 54, 55, 56, 57, 58, 59, 60, 61, 62, 63, 64, 65, 66, 67, 68, 69, 70, 71, 72, 6, 73, 74, 75, 76, 77, 8, 78, 106, 107, 108, 94, 95, 96, 97, 98, 99, 100, 109, 110, 111, 112, 113, 114, 101, 102, 103, 104, 105] (by decide +kernel) (by decide +kernel)
set_option maxRecDepth 20000 in
theorem gX9_setTolerance_X1_remember : GoodIn wsX9_setTolerance (wsV RX9 202 RX1 yX1_remember wsX1_remember) := goodIn_app (goodIn_of _ (by decide +kernel)) ggX9_setTolerance_X1_remember
set_option maxRecDepth 20000 in
theorem ggX9_setTolerance_X0_changeTolerance : GoodIn wsX9_setTolerance wsX0_changeTolerance := goodIn_r _ [82, 77, 83, 84, 85, 6, 86, 87, 4, 5, 7, 8, 101, 102, 103, 104, 105] (by decide +kernel) (by decide +kernel)
set_option maxRecDepth 20000 in
theorem gX9_setTolerance_X0_changeTolerance : GoodIn wsX9_setTolerance (wsV RX9 235 RX0 yX0_changeTolerance wsX0_changeTolerance) := goodIn_app (goodIn_of _ (by decide +kernel)) ggX9_setTolerance_X0_changeTolerance
theorem dX9_setTolerance_0 : decode cX9_setTolerance 0 = .ok (.aload_n 0, 1) := by decide +kernel
theorem dX9_setTolerance_1 : decode cX9_setTolerance 1 = .ok (.getfield 10, 3) := by decide +kernel
theorem dX9_setTolerance_4 : decode cX9_setTolerance 4 = .ok (.getfield 96, 3) := by decide +kernel
theorem dX9_setTolerance_7 : decode cX9_setTolerance 7 = .ok (.iload_n 1, 1) := by decide +kernel
theorem dX9_setTolerance_8 : decode cX9_setTolerance 8 = .ok (.invokevirtual 172, 3) := by decide +kernel
theorem dX9_setTolerance_11 : decode cX9_setTolerance 11 = .ok (.invokestatic 154, 3) := by decide +kernel
theorem dX9_setTolerance_14 : decode cX9_setTolerance 14 = .ok (.iload_n 2, 1) := by decide +kernel
theorem dX9_setTolerance_15 : decode cX9_setTolerance 15 = .ok (.invokestatic 229, 3) := by decide +kernel
theorem dX9_setTolerance_18 : decode cX9_setTolerance 18 = .ok (.invokestatic 51, 3) := by decide +kernel
theorem dX9_setTolerance_21 : decode cX9_setTolerance 21 = .ok (.aload_n 0, 1) := by decide +kernel
theorem dX9_setTolerance_22 : decode cX9_setTolerance 22 = .ok (.getfield 22, 3) := by decide +kernel
theorem dX9_setTolerance_25 : decode cX9_setTolerance 25 = .ok (.aload_n 0, 1) := by decide +kernel
theorem dX9_setTolerance_26 : decode cX9_setTolerance 26 = .ok (.getfield 10, 3) := by decide +kernel
theorem dX9_setTolerance_29 : decode cX9_setTolerance 29 = .ok (.invokevirtual 202, 3) := by decide +kernel
theorem dX9_setTolerance_32 : decode cX9_setTolerance 32 = .ok (.aload_n 0, 1) := by decide +kernel
theorem dX9_setTolerance_33 : decode cX9_setTolerance 33 = .ok (.getfield 10, 3) := by decide +kernel
theorem dX9_setTolerance_36 : decode cX9_setTolerance 36 = .ok (.getfield 96, 3) := by decide +kernel
theorem dX9_setTolerance_39 : decode cX9_setTolerance 39 = .ok (.iload_n 1, 1) := by decide +kernel
theorem dX9_setTolerance_40 : decode cX9_setTolerance 40 = .ok (.iload_n 2, 1) := by decide +kernel
theorem dX9_setTolerance_41 : decode cX9_setTolerance 41 = .ok (.invokevirtual 235, 3) := by decide +kernel
theorem dX9_setTolerance_44 : decode cX9_setTolerance 44 = .ok (.ireturn, 1) := by decide +kernel
set_option maxRecDepth 20000 in
theorem ggX9_set_X9_isSetting : GoodIn wsX9_set wsX9_isSetting := goodIn_r _ [6, 7, 8, 5, 9] (by decide +kernel) (by decide +kernel)
set_option maxRecDepth 20000 in
theorem gX9_set_X9_isSetting : GoodIn wsX9_set (va_wsS RX9 238 yX9_isSetting wsX9_isSetting) := goodIn_app (goodIn_of _ (by decide +kernel)) ggX9_set_X9_isSetting
set_option maxRecDepth 20000 in
theorem ggX9_set_X9_requireArgument : GoodIn wsX9_set wsX9_requireArgument := goodIn_ca (goodIn_r _ [12, 13, 14] (by decide +kernel) (by decide +kernel)) (goodIn_sub (fun _ h => List.mem_cons_of_mem _ (List.mem_append_right _ h)) (by decide +kernel))
set_option maxRecDepth 20000 in
theorem gX9_set_X9_requireArgument : GoodIn wsX9_set (va_wsS RX9 51 yX9_requireArgument wsX9_requireArgument) := goodIn_app (goodIn_of _ (by decide +kernel)) ggX9_set_X9_requireArgument
set_option maxRecDepth 20000 in
theorem ggX9_set_X1_remember : GoodIn wsX9_set wsX1_remember := goodIn_r _ [19, 20, 21, 22, 23, 24, 18, 25, 26, 27, 28, 29, 30, 31, 32, 33, 34, 35, 36, 37, 38, 39, 40, 41, 42, 43, 44, 45, 46, 47, 48, 49, 50, 51, 52, 53, 54, 55, 56, 57, 58, 59, 60, 61, 62, 63, 64, 65, 66, 67, 68, 69, 80, 81, 82, 83, 84, 85, 86, 87, 88, 89, 90, 91, 92, 93, 94, 95, 96, 97, 98, 99, 100] (by decide +kernel) (by decide +kernel)
set_option maxRecDepth 20000 in
theorem gX9_set_X1_remember : GoodIn wsX9_set (wsV RX9 202 RX1 yX1_remember wsX1_remember) := goodIn_app (goodIn_of _ (by decide +kernel)) ggX9_set_X1_remember
set_option maxRecDepth 20000 in
theorem ggX9_set_X7_changeSetting : GoodIn wsX9_set wsX7_changeSetting := goodIn_r _ [73, 44, 45, 83, 84, 85, 86, 87, 88, 89] (by decide +kernel) (by decide +kernel)
set_option maxRecDepth 20000 in
theorem gX9_set_X7_changeSetting : GoodIn wsX9_set (wsV RX9 241 RX7 yX7_changeSetting wsX7_changeSetting) := goodIn_app (goodIn_of _ (by decide +kernel)) ggX9_set_X7_changeSetting
theorem dX9_set_0 : decode cX9_set 0 = .ok (.iload_n 1, 1) := by decide +kernel
theorem dX9_set_1 : decode cX9_set 1 = .ok (.iload_n 2, 1) := by decide +kernel
theorem dX9_set_2 : decode cX9_set 2 = .ok (.invokestatic 238, 3) := by decide +kernel
theorem dX9_set_5 : decode cX9_set 5 = .ok (.invokestatic 51, 3) := by decide +kernel
theorem dX9_set_8 : decode cX9_set 8 = .ok (.aload_n 0, 1) := by decide +kernel
theorem dX9_set_9 : decode cX9_set 9 = .ok (.getfield 22, 3) := by decide +kernel
theorem dX9_set_12 : decode cX9_set 12 = .ok (.aload_n 0, 1) := by decide +kernel
theorem dX9_set_13 : decode cX9_set 13 = .ok (.getfield 10, 3) := by decide +kernel
theorem dX9_set_16 : decode cX9_set 16 = .ok (.invokevirtual 202, 3) := by decide +kernel
theorem dX9_set_19 : decode cX9_set 19 = .ok (.aload_n 0, 1) := by decide +kernel
theorem dX9_set_20 : decode cX9_set 20 = .ok (.getfield 10, 3) := by decide +kernel
theorem dX9_set_23 : decode cX9_set 23 = .ok (.iload_n 1, 1) := by decide +kernel
theorem dX9_set_24 : decode cX9_set 24 = .ok (.iload_n 2, 1) := by decide +kernel
theorem dX9_set_25 : decode cX9_set 25 = .ok (.invokevirtual 241, 3) := by decide +kernel
theorem dX9_set_28 : decode cX9_set 28 = .ok (.ireturn, 1) := by decide +kernel
set_option maxRecDepth 20000 in
theorem ggX9_undo_X1_count : GoodIn wsX9_undo wsX1_count := goodIn_r _ [7, 8, 74, 75, 76] (by decide +kernel) (by decide +kernel)
set_option maxRecDepth 20000 in
theorem gX9_undo_X1_count : GoodIn wsX9_undo (wsV RX9 244 RX1 yX1_count wsX1_count) := goodIn_app (goodIn_of _ (by decide +kernel)) ggX9_undo_X1_count
set_option maxRecDepth 20000 in
theorem ggX9_undo_X9_requireState : GoodIn wsX9_undo wsX9_requireState := goodIn_ca (goodIn_r _ [12, 13, 14] (by decide +kernel) (by decide +kernel)) (goodIn_sub (fun _ h => List.mem_cons_of_mem _ (List.mem_append_right _ h)) (by decide +kernel))
set_option maxRecDepth 20000 in
theorem gX9_undo_X9_requireState : GoodIn wsX9_undo (va_wsS RX9 59 yX9_requireState wsX9_requireState) := goodIn_app (goodIn_of _ (by decide +kernel)) ggX9_undo_X9_requireState
set_option maxRecDepth 20000 in
theorem ggX9_undo_X1_takeBack : GoodIn wsX9_undo wsX1_takeBack := goodIn_r _ [18, 8, 19, 20, 21, 6, 22, 23, 24, 25, 26, 27, 28, 29, 30, 31, 32, 33, 34, 35, 36, 37, 38, 39, 40, 41, 42, 43, 44, 45, 46, 47, 48, 49, 50, 51, 52, 53, 54, 55, 56, 57, 58, 59, 60, 61, 62, 63, 64, 65, 66, 67, 74, 75, 76, 77, 78, 79, 80, 81, 82, 83, 84, 85, 86, 87, 88, 89, 90, 91, 92, 93, 94] (by decide +kernel) (by decide +kernel)
set_option maxRecDepth 20000 in
theorem gX9_undo_X1_takeBack : GoodIn wsX9_undo (wsV RX9 245 RX1 yX1_takeBack wsX1_takeBack) := goodIn_app (goodIn_of _ (by decide +kernel)) ggX9_undo_X1_takeBack
