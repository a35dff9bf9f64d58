theorem dX0_init_0 : decode cX0_init 0 = .ok (.aload_n 0, 1) := by decide +kernel
theorem dX0_init_1 : decode cX0_init 1 = .ok (.invokespecial 3, 3) := by decide +kernel
theorem dX0_init_4 : decode cX0_init 4 = .ok (.aload_n 0, 1) := by decide +kernel
theorem dX0_init_5 : decode cX0_init 5 = .ok (.bipush 6, 2) := by decide +kernel
theorem dX0_init_7 : decode cX0_init 7 = .ok (.newarray .int, 2) := by decide +kernel
theorem dX0_init_9 : decode cX0_init 9 = .ok (.putfield 9, 3) := by decide +kernel
theorem dX0_init_12 : decode cX0_init 12 = .ok (.aload_n 0, 1) := by decide +kernel
theorem dX0_init_13 : decode cX0_init 13 = .ok (.bipush 6, 2) := by decide +kernel
theorem dX0_init_15 : decode cX0_init 15 = .ok (.newarray .int, 2) := by decide +kernel
theorem dX0_init_17 : decode cX0_init 17 = .ok (.putfield 15, 3) := by decide +kernel
theorem dX0_init_20 : decode cX0_init 20 = .ok (.aload_n 0, 1) := by decide +kernel
theorem dX0_init_21 : decode cX0_init 21 = .ok (.bipush 6, 2) := by decide +kernel
theorem dX0_init_23 : decode cX0_init 23 = .ok (.newarray .int, 2) := by decide +kernel
theorem dX0_init_25 : decode cX0_init 25 = .ok (.putfield 18, 3) := by decide +kernel
theorem dX0_init_28 : decode cX0_init 28 = .ok (.return_, 1) := by decide +kernel
theorem dX0_count_0 : decode cX0_count 0 = .ok (.aload_n 0, 1) := by decide +kernel
theorem dX0_count_1 : decode cX0_count 1 = .ok (.getfield 21, 3) := by decide +kernel
theorem dX0_count_4 : decode cX0_count 4 = .ok (.ireturn, 1) := by decide +kernel
theorem dX0_on_0 : decode cX0_on 0 = .ok (.aload_n 0, 1) := by decide +kernel
theorem dX0_on_1 : decode cX0_on 1 = .ok (.getfield 25, 3) := by decide +kernel
theorem dX0_on_4 : decode cX0_on 4 = .ok (.ireturn, 1) := by decide +kernel
theorem dX0_has_0 : decode cX0_has 0 = .ok (.iload_n 1, 1) := by decide +kernel
theorem dX0_has_1 : decode cX0_has 1 = .ok (.ifCond .lt 21, 3) := by decide +kernel
theorem dX0_has_4 : decode cX0_has 4 = .ok (.iload_n 1, 1) := by decide +kernel
theorem dX0_has_5 : decode cX0_has 5 = .ok (.aload_n 0, 1) := by decide +kernel
theorem dX0_has_6 : decode cX0_has 6 = .ok (.getfield 21, 3) := by decide +kernel
theorem dX0_has_9 : decode cX0_has 9 = .ok (.if_icmp .ge 13, 3) := by decide +kernel
theorem dX0_has_12 : decode cX0_has 12 = .ok (.iload_n 1, 1) := by decide +kernel
theorem dX0_has_13 : decode cX0_has 13 = .ok (.bipush 6, 2) := by decide +kernel
theorem dX0_has_15 : decode cX0_has 15 = .ok (.if_icmp .ge 7, 3) := by decide +kernel
theorem dX0_has_18 : decode cX0_has 18 = .ok (.iconst 1, 1) := by decide +kernel
theorem dX0_has_19 : decode cX0_has 19 = .ok (.goto 4, 3) := by decide +kernel
theorem dX0_has_22 : decode cX0_has 22 = .ok (.iconst 0, 1) := by decide +kernel
theorem dX0_has_23 : decode cX0_has 23 = .ok (.ireturn, 1) := by decide +kernel
theorem dX0_hasRoom_0 : decode cX0_hasRoom 0 = .ok (.aload_n 0, 1) := by decide +kernel
theorem dX0_hasRoom_1 : decode cX0_hasRoom 1 = .ok (.getfield 21, 3) := by decide +kernel
theorem dX0_hasRoom_4 : decode cX0_hasRoom 4 = .ok (.ifCond .lt 16, 3) := by decide +kernel
theorem dX0_hasRoom_7 : decode cX0_hasRoom 7 = .ok (.aload_n 0, 1) := by decide +kernel
theorem dX0_hasRoom_8 : decode cX0_hasRoom 8 = .ok (.getfield 21, 3) := by decide +kernel
theorem dX0_hasRoom_11 : decode cX0_hasRoom 11 = .ok (.bipush 6, 2) := by decide +kernel
theorem dX0_hasRoom_13 : decode cX0_hasRoom 13 = .ok (.if_icmp .ge 7, 3) := by decide +kernel
theorem dX0_hasRoom_16 : decode cX0_hasRoom 16 = .ok (.iconst 1, 1) := by decide +kernel
theorem dX0_hasRoom_17 : decode cX0_hasRoom 17 = .ok (.goto 4, 3) := by decide +kernel
theorem dX0_hasRoom_20 : decode cX0_hasRoom 20 = .ok (.iconst 0, 1) := by decide +kernel
theorem dX0_hasRoom_21 : decode cX0_hasRoom 21 = .ok (.ireturn, 1) := by decide +kernel
theorem dX0_clear_0 : decode cX0_clear 0 = .ok (.aload_n 0, 1) := by decide +kernel
theorem dX0_clear_1 : decode cX0_clear 1 = .ok (.iconst 0, 1) := by decide +kernel
theorem dX0_clear_2 : decode cX0_clear 2 = .ok (.putfield 21, 3) := by decide +kernel
theorem dX0_clear_5 : decode cX0_clear 5 = .ok (.aload_n 0, 1) := by decide +kernel
theorem dX0_clear_6 : decode cX0_clear 6 = .ok (.iconst 0, 1) := by decide +kernel
theorem dX0_clear_7 : decode cX0_clear 7 = .ok (.putfield 25, 3) := by decide +kernel
theorem dX0_clear_10 : decode cX0_clear 10 = .ok (.return_, 1) := by decide +kernel
theorem dX0_copyFrom_0 : decode cX0_copyFrom 0 = .ok (.aload_n 1, 1) := by decide +kernel
theorem dX0_copyFrom_1 : decode cX0_copyFrom 1 = .ok (.getfield 9, 3) := by decide +kernel
theorem dX0_copyFrom_4 : decode cX0_copyFrom 4 = .ok (.iconst 0, 1) := by decide +kernel
theorem dX0_copyFrom_5 : decode cX0_copyFrom 5 = .ok (.aload_n 0, 1) := by decide +kernel
theorem dX0_copyFrom_6 : decode cX0_copyFrom 6 = .ok (.getfield 9, 3) := by decide +kernel
theorem dX0_copyFrom_9 : decode cX0_copyFrom 9 = .ok (.iconst 0, 1) := by decide +kernel
theorem dX0_copyFrom_10 : decode cX0_copyFrom 10 = .ok (.bipush 6, 2) := by decide +kernel
theorem dX0_copyFrom_12 : decode cX0_copyFrom 12 = .ok (.invokestatic 28, 3) := by decide +kernel
theorem dX0_copyFrom_15 : decode cX0_copyFrom 15 = .ok (.aload_n 1, 1) := by decide +kernel
theorem dX0_copyFrom_16 : decode cX0_copyFrom 16 = .ok (.getfield 15, 3) := by decide +kernel
theorem dX0_copyFrom_19 : decode cX0_copyFrom 19 = .ok (.iconst 0, 1) := by decide +kernel
theorem dX0_copyFrom_20 : decode cX0_copyFrom 20 = .ok (.aload_n 0, 1) := by decide +kernel
theorem dX0_copyFrom_21 : decode cX0_copyFrom 21 = .ok (.getfield 15, 3) := by decide +kernel
theorem dX0_copyFrom_24 : decode cX0_copyFrom 24 = .ok (.iconst 0, 1) := by decide +kernel
theorem dX0_copyFrom_25 : decode cX0_copyFrom 25 = .ok (.bipush 6, 2) := by decide +kernel
theorem dX0_copyFrom_27 : decode cX0_copyFrom 27 = .ok (.invokestatic 28, 3) := by decide +kernel
theorem dX0_copyFrom_30 : decode cX0_copyFrom 30 = .ok (.aload_n 1, 1) := by decide +kernel
theorem dX0_copyFrom_31 : decode cX0_copyFrom 31 = .ok (.getfield 18, 3) := by decide +kernel
theorem dX0_copyFrom_34 : decode cX0_copyFrom 34 = .ok (.iconst 0, 1) := by decide +kernel
theorem dX0_copyFrom_35 : decode cX0_copyFrom 35 = .ok (.aload_n 0, 1) := by decide +kernel
theorem dX0_copyFrom_36 : decode cX0_copyFrom 36 = .ok (.getfield 18, 3) := by decide +kernel
theorem dX0_copyFrom_39 : decode cX0_copyFrom 39 = .ok (.iconst 0, 1) := by decide +kernel
theorem dX0_copyFrom_40 : decode cX0_copyFrom 40 = .ok (.bipush 6, 2) := by decide +kernel
theorem dX0_copyFrom_42 : decode cX0_copyFrom 42 = .ok (.invokestatic 28, 3) := by decide +kernel
theorem dX0_copyFrom_45 : decode cX0_copyFrom 45 = .ok (.aload_n 0, 1) := by decide +kernel
theorem dX0_copyFrom_46 : decode cX0_copyFrom 46 = .ok (.aload_n 1, 1) := by decide +kernel
theorem dX0_copyFrom_47 : decode cX0_copyFrom 47 = .ok (.getfield 21, 3) := by decide +kernel
theorem dX0_copyFrom_50 : decode cX0_copyFrom 50 = .ok (.putfield 21, 3) := by decide +kernel
theorem dX0_copyFrom_53 : decode cX0_copyFrom 53 = .ok (.aload_n 0, 1) := by decide +kernel
theorem dX0_copyFrom_54 : decode cX0_copyFrom 54 = .ok (.aload_n 1, 1) := by decide +kernel
theorem dX0_copyFrom_55 : decode cX0_copyFrom 55 = .ok (.getfield 25, 3) := by decide +kernel
theorem dX0_copyFrom_58 : decode cX0_copyFrom 58 = .ok (.putfield 25, 3) := by decide +kernel
theorem dX0_copyFrom_61 : decode cX0_copyFrom 61 = .ok (.return_, 1) := by decide +kernel
set_option maxRecDepth 20000 in
theorem ggX0_add_X0_hasRoom : GoodIn wsX0_add wsX0_hasRoom := goodIn_r _ [9, 1, 10, 11, 12, 13, 14] (by decide +kernel) (by decide +kernel)
set_option maxRecDepth 20000 in
theorem gX0_add_X0_hasRoom : GoodIn wsX0_add (wsV RX0 34 RX0 yX0_hasRoom wsX0_hasRoom) := goodIn_app (goodIn_of _ (by decide +kernel)) ggX0_add_X0_hasRoom
theorem dX0_add_0 : decode cX0_add 0 = .ok (.aload_n 0, 1) := by decide +kernel
theorem dX0_add_1 : decode cX0_add 1 = .ok (.invokevirtual 34, 3) := by decide +kernel
theorem dX0_add_4 : decode cX0_add 4 = .ok (.ifCond .ne 6, 3) := by decide +kernel
theorem dX0_add_7 : decode cX0_add 7 = .ok (.bipush (-9), 2) := by decide +kernel
theorem dX0_add_9 : decode cX0_add 9 = .ok (.ireturn, 1) := by decide +kernel
theorem dX0_add_10 : decode cX0_add 10 = .ok (.aload_n 0, 1) := by decide +kernel
theorem dX0_add_11 : decode cX0_add 11 = .ok (.getfield 21, 3) := by decide +kernel
theorem dX0_add_14 : decode cX0_add 14 = .ok (.istore 4, 2) := by decide +kernel
theorem dX0_add_16 : decode cX0_add 16 = .ok (.aload_n 0, 1) := by decide +kernel
theorem dX0_add_17 : decode cX0_add 17 = .ok (.getfield 9, 3) := by decide +kernel
theorem dX0_add_20 : decode cX0_add 20 = .ok (.iload 4, 2) := by decide +kernel
theorem dX0_add_22 : decode cX0_add 22 = .ok (.iload_n 1, 1) := by decide +kernel
theorem dX0_add_23 : decode cX0_add 23 = .ok (.iastore, 1) := by decide +kernel
theorem dX0_add_24 : decode cX0_add 24 = .ok (.aload_n 0, 1) := by decide +kernel
theorem dX0_add_25 : decode cX0_add 25 = .ok (.getfield 15, 3) := by decide +kernel
theorem dX0_add_28 : decode cX0_add 28 = .ok (.iload 4, 2) := by decide +kernel
theorem dX0_add_30 : decode cX0_add 30 = .ok (.iload_n 2, 1) := by decide +kernel
theorem dX0_add_31 : decode cX0_add 31 = .ok (.iastore, 1) := by decide +kernel
theorem dX0_add_32 : decode cX0_add 32 = .ok (.aload_n 0, 1) := by decide +kernel
theorem dX0_add_33 : decode cX0_add 33 = .ok (.getfield 18, 3) := by decide +kernel
theorem dX0_add_36 : decode cX0_add 36 = .ok (.iload 4, 2) := by decide +kernel
theorem dX0_add_38 : decode cX0_add 38 = .ok (.iload_n 3, 1) := by decide +kernel
theorem dX0_add_39 : decode cX0_add 39 = .ok (.iastore, 1) := by decide +kernel
theorem dX0_add_40 : decode cX0_add 40 = .ok (.aload_n 0, 1) := by decide +kernel
theorem dX0_add_41 : decode cX0_add 41 = .ok (.dup, 1) := by decide +kernel
theorem dX0_add_42 : decode cX0_add 42 = .ok (.getfield 21, 3) := by decide +kernel
theorem dX0_add_45 : decode cX0_add 45 = .ok (.iconst 1, 1) := by decide +kernel
theorem dX0_add_46 : decode cX0_add 46 = .ok (.iadd, 1) := by decide +kernel
theorem dX0_add_47 : decode cX0_add 47 = .ok (.putfield 21, 3) := by decide +kernel
theorem dX0_add_50 : decode cX0_add 50 = .ok (.iload 4, 2) := by decide +kernel
theorem dX0_add_52 : decode cX0_add 52 = .ok (.ireturn, 1) := by decide +kernel
set_option maxRecDepth 20000 in
theorem ggX0_houseOf_X0_has : GoodIn wsX0_houseOf wsX0_has := goodIn_r _ [6, 7, 8, 9, 10, 11, 12] (by decide +kernel) (by decide +kernel)
set_option maxRecDepth 20000 in
theorem gX0_houseOf_X0_has : GoodIn wsX0_houseOf (wsV RX0 38 RX0 yX0_has wsX0_has) := goodIn_app (goodIn_of _ (by decide +kernel)) ggX0_houseOf_X0_has
theorem dX0_houseOf_0 : decode cX0_houseOf 0 = .ok (.aload_n 0, 1) := by decide +kernel
theorem dX0_houseOf_1 : decode cX0_houseOf 1 = .ok (.iload_n 1, 1) := by decide +kernel
theorem dX0_houseOf_2 : decode cX0_houseOf 2 = .ok (.invokevirtual 38, 3) := by decide +kernel
theorem dX0_houseOf_5 : decode cX0_houseOf 5 = .ok (.ifCond .eq 12, 3) := by decide +kernel
theorem dX0_houseOf_8 : decode cX0_houseOf 8 = .ok (.aload_n 0, 1) := by decide +kernel
theorem dX0_houseOf_9 : decode cX0_houseOf 9 = .ok (.getfield 9, 3) := by decide +kernel
theorem dX0_houseOf_12 : decode cX0_houseOf 12 = .ok (.iload_n 1, 1) := by decide +kernel
theorem dX0_houseOf_13 : decode cX0_houseOf 13 = .ok (.iaload, 1) := by decide +kernel
theorem dX0_houseOf_14 : decode cX0_houseOf 14 = .ok (.goto 5, 3) := by decide +kernel
theorem dX0_houseOf_17 : decode cX0_houseOf 17 = .ok (.bipush (-9), 2) := by decide +kernel
theorem dX0_houseOf_19 : decode cX0_houseOf 19 = .ok (.ireturn, 1) := by decide +kernel
set_option maxRecDepth 20000 in
theorem ggX0_codeOf_X0_has : GoodIn wsX0_codeOf wsX0_has := goodIn_r _ [6, 7, 8, 9, 10, 11, 12] (by decide +kernel) (by decide +kernel)
set_option maxRecDepth 20000 in
theorem gX0_codeOf_X0_has : GoodIn wsX0_codeOf (wsV RX0 38 RX0 yX0_has wsX0_has) := goodIn_app (goodIn_of _ (by decide +kernel)) ggX0_codeOf_X0_has
theorem dX0_codeOf_0 : decode cX0_codeOf 0 = .ok (.aload_n 0, 1) := by decide +kernel
theorem dX0_codeOf_1 : decode cX0_codeOf 1 = .ok (.iload_n 1, 1) := by decide +kernel
theorem dX0_codeOf_2 : decode cX0_codeOf 2 = .ok (.invokevirtual 38, 3) := by decide +kernel
theorem dX0_codeOf_5 : decode cX0_codeOf 5 = .ok (.ifCond .eq 12, 3) := by decide +kernel
theorem dX0_codeOf_8 : decode cX0_codeOf 8 = .ok (.aload_n 0, 1) := by decide +kernel
theorem dX0_codeOf_9 : decode cX0_codeOf 9 = .ok (.getfield 15, 3) := by decide +kernel
theorem dX0_codeOf_12 : decode cX0_codeOf 12 = .ok (.iload_n 1, 1) := by decide +kernel
theorem dX0_codeOf_13 : decode cX0_codeOf 13 = .ok (.iaload, 1) := by decide +kernel
theorem dX0_codeOf_14 : decode cX0_codeOf 14 = .ok (.goto 5, 3) := by decide +kernel
theorem dX0_codeOf_17 : decode cX0_codeOf 17 = .ok (.bipush (-9), 2) := by decide +kernel
theorem dX0_codeOf_19 : decode cX0_codeOf 19 = .ok (.ireturn, 1) := by decide +kernel
set_option maxRecDepth 20000 in
theorem ggX0_toleranceOf_X0_has : GoodIn wsX0_toleranceOf wsX0_has := goodIn_r _ [6, 7, 8, 9, 10, 11, 12] (by decide +kernel) (by decide +kernel)
set_option maxRecDepth 20000 in
theorem gX0_toleranceOf_X0_has : GoodIn wsX0_toleranceOf (wsV RX0 38 RX0 yX0_has wsX0_has) := goodIn_app (goodIn_of _ (by decide +kernel)) ggX0_toleranceOf_X0_has
theorem dX0_toleranceOf_0 : decode cX0_toleranceOf 0 = .ok (.aload_n 0, 1) := by decide +kernel
theorem dX0_toleranceOf_1 : decode cX0_toleranceOf 1 = .ok (.iload_n 1, 1) := by decide +kernel
theorem dX0_toleranceOf_2 : decode cX0_toleranceOf 2 = .ok (.invokevirtual 38, 3) := by decide +kernel
theorem dX0_toleranceOf_5 : decode cX0_toleranceOf 5 = .ok (.ifCond .eq 12, 3) := by decide +kernel
theorem dX0_toleranceOf_8 : decode cX0_toleranceOf 8 = .ok (.aload_n 0, 1) := by decide +kernel
theorem dX0_toleranceOf_9 : decode cX0_toleranceOf 9 = .ok (.getfield 18, 3) := by decide +kernel
theorem dX0_toleranceOf_12 : decode cX0_toleranceOf 12 = .ok (.iload_n 1, 1) := by decide +kernel
theorem dX0_toleranceOf_13 : decode cX0_toleranceOf 13 = .ok (.iaload, 1) := by decide +kernel
theorem dX0_toleranceOf_14 : decode cX0_toleranceOf 14 = .ok (.goto 5, 3) := by decide +kernel
theorem dX0_toleranceOf_17 : decode cX0_toleranceOf 17 = .ok (.bipush (-9), 2) := by decide +kernel
theorem dX0_toleranceOf_19 : decode cX0_toleranceOf 19 = .ok (.ireturn, 1) := by decide +kernel
set_option maxRecDepth 20000 in
theorem ggX0_isOn_X0_has : GoodIn wsX0_isOn wsX0_has := goodIn_r _ [6, 7, 8, 9, 10, 11, 12] (by decide +kernel) (by decide +kernel)
set_option maxRecDepth 20000 in
theorem gX0_isOn_X0_has : GoodIn wsX0_isOn (wsV RX0 38 RX0 yX0_has wsX0_has) := goodIn_app (goodIn_of _ (by decide +kernel)) ggX0_isOn_X0_has
theorem dX0_isOn_0 : decode cX0_isOn 0 = .ok (.aload_n 0, 1) := by decide +kernel
theorem dX0_isOn_1 : decode cX0_isOn 1 = .ok (.iload_n 1, 1) := by decide +kernel
theorem dX0_isOn_2 : decode cX0_isOn 2 = .ok (.invokevirtual 38, 3) := by decide +kernel
theorem dX0_isOn_5 : decode cX0_isOn 5 = .ok (.ifCond .eq 19, 3) := by decide +kernel
theorem dX0_isOn_8 : decode cX0_isOn 8 = .ok (.aload_n 0, 1) := by decide +kernel
theorem dX0_isOn_9 : decode cX0_isOn 9 = .ok (.getfield 25, 3) := by decide +kernel
theorem dX0_isOn_12 : decode cX0_isOn 12 = .ok (.iload_n 1, 1) := by decide +kernel
theorem dX0_isOn_13 : decode cX0_isOn 13 = .ok (.ishr, 1) := by decide +kernel
theorem dX0_isOn_14 : decode cX0_isOn 14 = .ok (.iconst 1, 1) := by decide +kernel
theorem dX0_isOn_15 : decode cX0_isOn 15 = .ok (.iand, 1) := by decide +kernel
theorem dX0_isOn_16 : decode cX0_isOn 16 = .ok (.iconst 1, 1) := by decide +kernel
theorem dX0_isOn_17 : decode cX0_isOn 17 = .ok (.if_icmp .ne 7, 3) := by decide +kernel
theorem dX0_isOn_20 : decode cX0_isOn 20 = .ok (.iconst 1, 1) := by decide +kernel
theorem dX0_isOn_21 : decode cX0_isOn 21 = .ok (.goto 4, 3) := by decide +kernel
theorem dX0_isOn_24 : decode cX0_isOn 24 = .ok (.iconst 0, 1) := by decide +kernel
theorem dX0_isOn_25 : decode cX0_isOn 25 = .ok (.ireturn, 1) := by decide +kernel
set_option maxRecDepth 20000 in
theorem ggX0_accepts_X0_has : GoodIn wsX0_accepts wsX0_has := goodIn_r _ [12, 13, 21, 22, 23, 24, 25] (by decide +kernel) (by decide +kernel)
set_option maxRecDepth 20000 in
theorem gX0_accepts_X0_has : GoodIn wsX0_accepts (wsV RX0 38 RX0 yX0_has wsX0_has) := goodIn_app (goodIn_of _ (by decide +kernel)) ggX0_accepts_X0_has
set_option maxRecDepth 20000 in
theorem ggX0_accepts_J6_bitCount_0f7a4 : GoodIn wsX0_accepts wsJ6_bitCount_0f7a4 := goodIn_r _ [17, 18, 19, 20] (by decide +kernel) (by decide +kernel)
set_option maxRecDepth 20000 in
theorem gX0_accepts_J6_bitCount_0f7a4 : GoodIn wsX0_accepts (va_wsS RX0 48 yJ6_bitCount_0f7a4 wsJ6_bitCount_0f7a4) := goodIn_app (goodIn_of _ (by decide +kernel)) ggX0_accepts_J6_bitCount_0f7a4
theorem dX0_accepts_0 : decode cX0_accepts 0 = .ok (.aload_n 0, 1) := by decide +kernel
theorem dX0_accepts_1 : decode cX0_accepts 1 = .ok (.iload_n 1, 1) := by decide +kernel
theorem dX0_accepts_2 : decode cX0_accepts 2 = .ok (.invokevirtual 38, 3) := by decide +kernel
theorem dX0_accepts_5 : decode cX0_accepts 5 = .ok (.ifCond .eq 49, 3) := by decide +kernel
theorem dX0_accepts_8 : decode cX0_accepts 8 = .ok (.iload_n 3, 1) := by decide +kernel
theorem dX0_accepts_9 : decode cX0_accepts 9 = .ok (.bipush (-9), 2) := by decide +kernel
theorem dX0_accepts_11 : decode cX0_accepts 11 = .ok (.if_icmp .eq 43, 3) := by decide +kernel
theorem dX0_accepts_14 : decode cX0_accepts 14 = .ok (.aload_n 0, 1) := by decide +kernel
theorem dX0_accepts_15 : decode cX0_accepts 15 = .ok (.getfield 9, 3) := by decide +kernel
theorem dX0_accepts_18 : decode cX0_accepts 18 = .ok (.iload_n 1, 1) := by decide +kernel
theorem dX0_accepts_19 : decode cX0_accepts 19 = .ok (.iaload, 1) := by decide +kernel
theorem dX0_accepts_20 : decode cX0_accepts 20 = .ok (.iload_n 2, 1) := by decide +kernel
theorem dX0_accepts_21 : decode cX0_accepts 21 = .ok (.isub, 1) := by decide +kernel
theorem dX0_accepts_22 : decode cX0_accepts 22 = .ok (.invokestatic 42, 3) := by decide +kernel
theorem dX0_accepts_25 : decode cX0_accepts 25 = .ok (.iload 4, 2) := by decide +kernel
theorem dX0_accepts_27 : decode cX0_accepts 27 = .ok (.if_icmp .gt 27, 3) := by decide +kernel
theorem dX0_accepts_30 : decode cX0_accepts 30 = .ok (.aload_n 0, 1) := by decide +kernel
theorem dX0_accepts_31 : decode cX0_accepts 31 = .ok (.getfield 15, 3) := by decide +kernel
theorem dX0_accepts_34 : decode cX0_accepts 34 = .ok (.iload_n 1, 1) := by decide +kernel
theorem dX0_accepts_35 : decode cX0_accepts 35 = .ok (.iaload, 1) := by decide +kernel
theorem dX0_accepts_36 : decode cX0_accepts 36 = .ok (.iload_n 3, 1) := by decide +kernel
theorem dX0_accepts_37 : decode cX0_accepts 37 = .ok (.ixor, 1) := by decide +kernel
theorem dX0_accepts_38 : decode cX0_accepts 38 = .ok (.invokestatic 48, 3) := by decide +kernel
theorem dX0_accepts_41 : decode cX0_accepts 41 = .ok (.aload_n 0, 1) := by decide +kernel
theorem dX0_accepts_42 : decode cX0_accepts 42 = .ok (.getfield 18, 3) := by decide +kernel
theorem dX0_accepts_45 : decode cX0_accepts 45 = .ok (.iload_n 1, 1) := by decide +kernel
theorem dX0_accepts_46 : decode cX0_accepts 46 = .ok (.iaload, 1) := by decide +kernel
theorem dX0_accepts_47 : decode cX0_accepts 47 = .ok (.if_icmp .gt 7, 3) := by decide +kernel
theorem dX0_accepts_50 : decode cX0_accepts 50 = .ok (.iconst 1, 1) := by decide +kernel
theorem dX0_accepts_51 : decode cX0_accepts 51 = .ok (.goto 4, 3) := by decide +kernel
theorem dX0_accepts_54 : decode cX0_accepts 54 = .ok (.iconst 0, 1) := by decide +kernel
theorem dX0_accepts_55 : decode cX0_accepts 55 = .ok (.ireturn, 1) := by decide +kernel
set_option maxRecDepth 20000 in
theorem ggX0_accepting_X0_accepts : GoodIn wsX0_accepting wsX0_accepts := goodIn_r _ [6, 7, 8, 9, 10, 11, 12, 13, 14, 15, 16, 5, 17, 1, 18, 19, 20, 21, 22, 23, 24, 25, 26, 27, 28, 29] (by decide +kernel) (by decide +kernel)
set_option maxRecDepth 20000 in
theorem gX0_accepting_X0_accepts : GoodIn wsX0_accepting (wsV RX0 53 RX0 yX0_accepts wsX0_accepts) := goodIn_app (goodIn_of _ (by decide +kernel)) ggX0_accepting_X0_accepts
theorem dX0_accepting_0 : decode cX0_accepting 0 = .ok (.iconst 0, 1) := by decide +kernel
theorem dX0_accepting_1 : decode cX0_accepting 1 = .ok (.istore 4, 2) := by decide +kernel
theorem dX0_accepting_3 : decode cX0_accepting 3 = .ok (.iconst 0, 1) := by decide +kernel
theorem dX0_accepting_4 : decode cX0_accepting 4 = .ok (.istore 5, 2) := by decide +kernel
theorem dX0_accepting_6 : decode cX0_accepting 6 = .ok (.iload 5, 2) := by decide +kernel
theorem dX0_accepting_8 : decode cX0_accepting 8 = .ok (.aload_n 0, 1) := by decide +kernel
theorem dX0_accepting_9 : decode cX0_accepting 9 = .ok (.getfield 21, 3) := by decide +kernel
theorem dX0_accepting_12 : decode cX0_accepting 12 = .ok (.if_icmp .ge 30, 3) := by decide +kernel
theorem dX0_accepting_15 : decode cX0_accepting 15 = .ok (.aload_n 0, 1) := by decide +kernel
theorem dX0_accepting_16 : decode cX0_accepting 16 = .ok (.iload 5, 2) := by decide +kernel
theorem dX0_accepting_18 : decode cX0_accepting 18 = .ok (.iload_n 1, 1) := by decide +kernel
theorem dX0_accepting_19 : decode cX0_accepting 19 = .ok (.iload_n 2, 1) := by decide +kernel
theorem dX0_accepting_20 : decode cX0_accepting 20 = .ok (.iload_n 3, 1) := by decide +kernel
theorem dX0_accepting_21 : decode cX0_accepting 21 = .ok (.invokevirtual 53, 3) := by decide +kernel
theorem dX0_accepting_24 : decode cX0_accepting 24 = .ok (.ifCond .eq 12, 3) := by decide +kernel
theorem dX0_accepting_27 : decode cX0_accepting 27 = .ok (.iload 4, 2) := by decide +kernel
theorem dX0_accepting_29 : decode cX0_accepting 29 = .ok (.iconst 1, 1) := by decide +kernel
theorem dX0_accepting_30 : decode cX0_accepting 30 = .ok (.iload 5, 2) := by decide +kernel
theorem dX0_accepting_32 : decode cX0_accepting 32 = .ok (.ishl, 1) := by decide +kernel
theorem dX0_accepting_33 : decode cX0_accepting 33 = .ok (.ior, 1) := by decide +kernel
theorem dX0_accepting_34 : decode cX0_accepting 34 = .ok (.istore 4, 2) := by decide +kernel
theorem dX0_accepting_36 : decode cX0_accepting 36 = .ok (.iinc 5 1, 3) := by decide +kernel
theorem dX0_accepting_39 : decode cX0_accepting 39 = .ok (.goto (-33), 3) := by decide +kernel
theorem dX0_accepting_42 : decode cX0_accepting 42 = .ok (.iload 4, 2) := by decide +kernel
theorem dX0_accepting_44 : decode cX0_accepting 44 = .ok (.ireturn, 1) := by decide +kernel
set_option maxRecDepth 20000 in
theorem ggX0_changeTolerance_X0_toleranceOf : GoodIn wsX0_changeTolerance wsX0_toleranceOf := goodIn_r _ [6, 1, 7, 8, 9, 5, 10, 11, 12, 13, 14, 15, 16] (by decide +kernel) (by decide +kernel)
set_option maxRecDepth 20000 in
theorem gX0_changeTolerance_X0_toleranceOf : GoodIn wsX0_changeTolerance (wsV RX0 57 RX0 yX0_toleranceOf wsX0_toleranceOf) := goodIn_app (goodIn_of _ (by decide +kernel)) ggX0_changeTolerance_X0_toleranceOf
set_option maxRecDepth 20000 in
theorem ggX0_changeTolerance_X0_has : GoodIn wsX0_changeTolerance wsX0_has := goodIn_r _ [10, 11, 12, 13, 14, 15, 16] (by decide +kernel) (by decide +kernel)
set_option maxRecDepth 20000 in
theorem gX0_changeTolerance_X0_has : GoodIn wsX0_changeTolerance (wsV RX0 38 RX0 yX0_has wsX0_has) := goodIn_app (goodIn_of _ (by decide +kernel)) ggX0_changeTolerance_X0_has
theorem dX0_changeTolerance_0 : decode cX0_changeTolerance 0 = .ok (.aload_n 0, 1) := by decide +kernel
theorem dX0_changeTolerance_1 : decode cX0_changeTolerance 1 = .ok (.iload_n 1, 1) := by decide +kernel
theorem dX0_changeTolerance_2 : decode cX0_changeTolerance 2 = .ok (.invokevirtual 57, 3) := by decide +kernel
theorem dX0_changeTolerance_5 : decode cX0_changeTolerance 5 = .ok (.istore_n 3, 1) := by decide +kernel
theorem dX0_changeTolerance_6 : decode cX0_changeTolerance 6 = .ok (.aload_n 0, 1) := by decide +kernel
theorem dX0_changeTolerance_7 : decode cX0_changeTolerance 7 = .ok (.iload_n 1, 1) := by decide +kernel
theorem dX0_changeTolerance_8 : decode cX0_changeTolerance 8 = .ok (.invokevirtual 38, 3) := by decide +kernel
theorem dX0_changeTolerance_11 : decode cX0_changeTolerance 11 = .ok (.ifCond .eq 10, 3) := by decide +kernel
theorem dX0_changeTolerance_14 : decode cX0_changeTolerance 14 = .ok (.aload_n 0, 1) := by decide +kernel
theorem dX0_changeTolerance_15 : decode cX0_changeTolerance 15 = .ok (.getfield 18, 3) := by decide +kernel
theorem dX0_changeTolerance_18 : decode cX0_changeTolerance 18 = .ok (.iload_n 1, 1) := by decide +kernel
theorem dX0_changeTolerance_19 : decode cX0_changeTolerance 19 = .ok (.iload_n 2, 1) := by decide +kernel
theorem dX0_changeTolerance_20 : decode cX0_changeTolerance 20 = .ok (.iastore, 1) := by decide +kernel
theorem dX0_changeTolerance_21 : decode cX0_changeTolerance 21 = .ok (.iload_n 3, 1) := by decide +kernel
theorem dX0_changeTolerance_22 : decode cX0_changeTolerance 22 = .ok (.ireturn, 1) := by decide +kernel
theorem dX0_switchOver_0 : decode cX0_switchOver 0 = .ok (.aload_n 0, 1) := by decide +kernel
theorem dX0_switchOver_1 : decode cX0_switchOver 1 = .ok (.dup, 1) := by decide +kernel
theorem dX0_switchOver_2 : decode cX0_switchOver 2 = .ok (.getfield 25, 3) := by decide +kernel
theorem dX0_switchOver_5 : decode cX0_switchOver 5 = .ok (.iload_n 1, 1) := by decide +kernel
theorem dX0_switchOver_6 : decode cX0_switchOver 6 = .ok (.ixor, 1) := by decide +kernel
theorem dX0_switchOver_7 : decode cX0_switchOver 7 = .ok (.putfield 25, 3) := by decide +kernel
theorem dX0_switchOver_10 : decode cX0_switchOver 10 = .ok (.return_, 1) := by decide +kernel
set_option maxRecDepth 20000 in
theorem ggX1_init_X7_init : GoodIn wsX1_init wsX7_init := goodIn_r _ [10, 11, 2, 3, 12, 13, 14, 15, 16, 17, 18, 19, 20, 21, 22, 23, 24, 25, 26, 27, 28, 29, 30, 31, 32, 33, 34, 35, 36, 37, 38, 7, 39, 40, 41, 42, 43, 44, 45, 46, 47, 48, 49, 50, 51, 52, 53, 54, 55, 56, 57, 58, 69, 70, 71, 72, 73, 74, 62, 63, 64, 65, 66, 67, 68, 75, 76, 77, 78, 79] (by decide +kernel) (by decide +kernel)
set_option maxRecDepth 20000 in
theorem gX1_init_X7_init : GoodIn wsX1_init (wsX7_init) := ggX1_init_X7_init
theorem dX1_init_0 : decode cX1_init 0 = .ok (.aload_n 0, 1) := by decide +kernel
theorem dX1_init_1 : decode cX1_init 1 = .ok (.invokespecial 3, 3) := by decide +kernel
theorem dX1_init_4 : decode cX1_init 4 = .ok (.aload_n 0, 1) := by decide +kernel
theorem dX1_init_5 : decode cX1_init 5 = .ok (.bipush 14, 2) := by decide +kernel
theorem dX1_init_7 : decode cX1_init 7 = .ok (.anewarray 9, 3) := by decide +kernel
theorem dX1_init_10 : decode cX1_init 10 = .ok (.putfield 11, 3) := by decide +kernel
theorem dX1_init_13 : decode cX1_init 13 = .ok (.iconst 0, 1) := by decide +kernel
theorem dX1_init_14 : decode cX1_init 14 = .ok (.istore_n 1, 1) := by decide +kernel
theorem dX1_init_15 : decode cX1_init 15 = .ok (.iload_n 1, 1) := by decide +kernel
theorem dX1_init_16 : decode cX1_init 16 = .ok (.bipush 14, 2) := by decide +kernel
theorem dX1_init_18 : decode cX1_init 18 = .ok (.if_icmp .ge 22, 3) := by decide +kernel
theorem dX1_init_21 : decode cX1_init 21 = .ok (.aload_n 0, 1) := by decide +kernel
theorem dX1_init_22 : decode cX1_init 22 = .ok (.getfield 11, 3) := by decide +kernel
theorem dX1_init_25 : decode cX1_init 25 = .ok (.iload_n 1, 1) := by decide +kernel
theorem dX1_init_26 : decode cX1_init 26 = .ok (.new 9, 3) := by decide +kernel
theorem dX1_init_29 : decode cX1_init 29 = .ok (.dup, 1) := by decide +kernel
theorem dX1_init_30 : decode cX1_init 30 = .ok (.invokespecial 17, 3) := by decide +kernel
theorem dX1_init_33 : decode cX1_init 33 = .ok (.aastore, 1) := by decide +kernel
theorem dX1_init_34 : decode cX1_init 34 = .ok (.iinc 1 1, 3) := by decide +kernel
theorem dX1_init_37 : decode cX1_init 37 = .ok (.goto (-22), 3) := by decide +kernel
theorem dX1_init_40 : decode cX1_init 40 = .ok (.return_, 1) := by decide +kernel
theorem dX1_count_0 : decode cX1_count 0 = .ok (.aload_n 0, 1) := by decide +kernel
theorem dX1_count_1 : decode cX1_count 1 = .ok (.getfield 18, 3) := by decide +kernel
theorem dX1_count_4 : decode cX1_count 4 = .ok (.ireturn, 1) := by decide +kernel
set_option maxRecDepth 20000 in
theorem ggX1_stateAt_J9_floorMod_7cf53 : GoodIn wsX1_stateAt wsJ9_floorMod_7cf53 := goodIn_r _ [6] (by decide +kernel) (by decide +kernel)
set_option maxRecDepth 20000 in
theorem gX1_stateAt_J9_floorMod_7cf53 : GoodIn wsX1_stateAt (va_wsS RX1 25 yJ9_floorMod_7cf53 wsJ9_floorMod_7cf53) := goodIn_app (goodIn_of _ (by decide +kernel)) ggX1_stateAt_J9_floorMod_7cf53
theorem dX1_stateAt_0 : decode cX1_stateAt 0 = .ok (.aload_n 0, 1) := by decide +kernel
theorem dX1_stateAt_1 : decode cX1_stateAt 1 = .ok (.getfield 11, 3) := by decide +kernel
theorem dX1_stateAt_4 : decode cX1_stateAt 4 = .ok (.aload_n 0, 1) := by decide +kernel
theorem dX1_stateAt_5 : decode cX1_stateAt 5 = .ok (.getfield 22, 3) := by decide +kernel
theorem dX1_stateAt_8 : decode cX1_stateAt 8 = .ok (.iload_n 1, 1) := by decide +kernel
theorem dX1_stateAt_9 : decode cX1_stateAt 9 = .ok (.iadd, 1) := by decide +kernel
theorem dX1_stateAt_10 : decode cX1_stateAt 10 = .ok (.bipush 14, 2) := by decide +kernel
theorem dX1_stateAt_12 : decode cX1_stateAt 12 = .ok (.invokestatic 25, 3) := by decide +kernel
theorem dX1_stateAt_15 : decode cX1_stateAt 15 = .ok (.aaload, 1) := by decide +kernel
theorem dX1_stateAt_16 : decode cX1_stateAt 16 = .ok (.areturn, 1) := by decide +kernel
set_option maxRecDepth 20000 in
theorem ggX1_remember_X1_stateAt : GoodIn wsX1_remember wsX1_stateAt := goodIn_r _ [7, 8, 2, 9, 10, 11, 12, 52, 53, 54] (by decide +kernel) (by decide +kernel)
set_option maxRecDepth 20000 in
theorem gX1_remember_X1_stateAt : GoodIn wsX1_remember (wsV RX1 31 RX1 yX1_stateAt wsX1_stateAt) := goodIn_app (goodIn_of _ (by decide +kernel)) ggX1_remember_X1_stateAt
set_option maxRecDepth 20000 in
theorem ggX1_remember_X7_copyFrom : GoodIn wsX1_remember wsX7_copyFrom := goodIn_r _ [17, 18, 19, 20, 21, 22, 23, 24, 25, 26, 27, 28, 29, 30, 31, 32, 33, 34, 35, 36, 37, 38, 39, 40, 41, 42, 43, 44, 45, 46, 47, 48, 49, 50, 51, 55, 56, 57, 58, 59, 60, 61, 62, 63, 64, 65, 66, 67, 68, 69, 70, 71, 72] (by decide +kernel) (by decide +kernel)
set_option maxRecDepth 20000 in
theorem gX1_remember_X7_copyFrom : GoodIn wsX1_remember (wsV RX1 35 RX7 yX7_copyFrom wsX7_copyFrom) := goodIn_app (goodIn_of _ (by decide +kernel)) ggX1_remember_X7_copyFrom
theorem dX1_remember_0 : decode cX1_remember 0 = .ok (.aload_n 0, 1) := by decide +kernel
theorem dX1_remember_1 : decode cX1_remember 1 = .ok (.aload_n 0, 1) := by decide +kernel
theorem dX1_remember_2 : decode cX1_remember 2 = .ok (.getfield 18, 3) := by decide +kernel
theorem dX1_remember_5 : decode cX1_remember 5 = .ok (.invokevirtual 31, 3) := by decide +kernel
theorem dX1_remember_8 : decode cX1_remember 8 = .ok (.astore_n 2, 1) := by decide +kernel
theorem dX1_remember_9 : decode cX1_remember 9 = .ok (.aload_n 2, 1) := by decide +kernel
theorem dX1_remember_10 : decode cX1_remember 10 = .ok (.ifnull 8, 3) := by decide +kernel
theorem dX1_remember_13 : decode cX1_remember 13 = .ok (.aload_n 2, 1) := by decide +kernel
theorem dX1_remember_14 : decode cX1_remember 14 = .ok (.aload_n 1, 1) := by decide +kernel
theorem dX1_remember_15 : decode cX1_remember 15 = .ok (.invokevirtual 35, 3) := by decide +kernel
theorem dX1_remember_18 : decode cX1_remember 18 = .ok (.aload_n 0, 1) := by decide +kernel
theorem dX1_remember_19 : decode cX1_remember 19 = .ok (.getfield 18, 3) := by decide +kernel
theorem dX1_remember_22 : decode cX1_remember 22 = .ok (.bipush 14, 2) := by decide +kernel
theorem dX1_remember_24 : decode cX1_remember 24 = .ok (.if_icmp .ge 16, 3) := by decide +kernel
theorem dX1_remember_27 : decode cX1_remember 27 = .ok (.aload_n 0, 1) := by decide +kernel
theorem dX1_remember_28 : decode cX1_remember 28 = .ok (.dup, 1) := by decide +kernel
theorem dX1_remember_29 : decode cX1_remember 29 = .ok (.getfield 18, 3) := by decide +kernel
theorem dX1_remember_32 : decode cX1_remember 32 = .ok (.iconst 1, 1) := by decide +kernel
theorem dX1_remember_33 : decode cX1_remember 33 = .ok (.iadd, 1) := by decide +kernel
theorem dX1_remember_34 : decode cX1_remember 34 = .ok (.putfield 18, 3) := by decide +kernel
theorem dX1_remember_37 : decode cX1_remember 37 = .ok (.goto 16, 3) := by decide +kernel
theorem dX1_remember_40 : decode cX1_remember 40 = .ok (.aload_n 0, 1) := by decide +kernel
theorem dX1_remember_41 : decode cX1_remember 41 = .ok (.aload_n 0, 1) := by decide +kernel
theorem dX1_remember_42 : decode cX1_remember 42 = .ok (.getfield 22, 3) := by decide +kernel
theorem dX1_remember_45 : decode cX1_remember 45 = .ok (.iconst 1, 1) := by decide +kernel
theorem dX1_remember_46 : decode cX1_remember 46 = .ok (.iadd, 1) := by decide +kernel
theorem dX1_remember_47 : decode cX1_remember 47 = .ok (.bipush 14, 2) := by decide +kernel
theorem dX1_remember_49 : decode cX1_remember 49 = .ok (.irem, 1) := by decide +kernel
theorem dX1_remember_50 : decode cX1_remember 50 = .ok (.putfield 22, 3) := by decide +kernel
theorem dX1_remember_53 : decode cX1_remember 53 = .ok (.return_, 1) := by decide +kernel
set_option maxRecDepth 20000 in
theorem ggX1_takeBack_X1_stateAt : GoodIn wsX1_takeBack wsX1_stateAt := goodIn_r _ [6, 7, 8, 9, 10, 11, 12, 52, 53, 54] (by decide +kernel) (by decide +kernel)
set_option maxRecDepth 20000 in
theorem gX1_takeBack_X1_stateAt : GoodIn wsX1_takeBack (wsV RX1 31 RX1 yX1_stateAt wsX1_stateAt) := goodIn_app (goodIn_of _ (by decide +kernel)) ggX1_takeBack_X1_stateAt
set_option maxRecDepth 20000 in
theorem ggX1_takeBack_X7_copyFrom : GoodIn wsX1_takeBack wsX7_copyFrom := goodIn_r _ [17, 18, 19, 20, 21, 22, 23, 24, 25, 26, 27, 28, 29, 30, 31, 32, 33, 34, 35, 36, 37, 38, 39, 40, 41, 42, 43, 44, 45, 46, 47, 48, 49, 50, 51, 55, 56, 57, 58, 59, 60, 61, 62, 63, 64, 65, 66, 67, 68, 69, 70, 71, 72] (by decide +kernel) (by decide +kernel)
set_option maxRecDepth 20000 in
theorem gX1_takeBack_X7_copyFrom : GoodIn wsX1_takeBack (wsV RX1 35 RX7 yX7_copyFrom wsX7_copyFrom) := goodIn_app (goodIn_of _ (by decide +kernel)) ggX1_takeBack_X7_copyFrom
theorem dX1_takeBack_0 : decode cX1_takeBack 0 = .ok (.aload_n 0, 1) := by decide +kernel
theorem dX1_takeBack_1 : decode cX1_takeBack 1 = .ok (.getfield 18, 3) := by decide +kernel
theorem dX1_takeBack_4 : decode cX1_takeBack 4 = .ok (.ifCond .le 31, 3) := by decide +kernel
theorem dX1_takeBack_7 : decode cX1_takeBack 7 = .ok (.aload_n 0, 1) := by decide +kernel
theorem dX1_takeBack_8 : decode cX1_takeBack 8 = .ok (.dup, 1) := by decide +kernel
theorem dX1_takeBack_9 : decode cX1_takeBack 9 = .ok (.getfield 18, 3) := by decide +kernel
theorem dX1_takeBack_12 : decode cX1_takeBack 12 = .ok (.iconst 1, 1) := by decide +kernel
theorem dX1_takeBack_13 : decode cX1_takeBack 13 = .ok (.isub, 1) := by decide +kernel
theorem dX1_takeBack_14 : decode cX1_takeBack 14 = .ok (.putfield 18, 3) := by decide +kernel
theorem dX1_takeBack_17 : decode cX1_takeBack 17 = .ok (.aload_n 0, 1) := by decide +kernel
theorem dX1_takeBack_18 : decode cX1_takeBack 18 = .ok (.aload_n 0, 1) := by decide +kernel
theorem dX1_takeBack_19 : decode cX1_takeBack 19 = .ok (.getfield 18, 3) := by decide +kernel
theorem dX1_takeBack_22 : decode cX1_takeBack 22 = .ok (.invokevirtual 31, 3) := by decide +kernel
theorem dX1_takeBack_25 : decode cX1_takeBack 25 = .ok (.astore_n 2, 1) := by decide +kernel
theorem dX1_takeBack_26 : decode cX1_takeBack 26 = .ok (.aload_n 2, 1) := by decide +kernel
theorem dX1_takeBack_27 : decode cX1_takeBack 27 = .ok (.ifnull 8, 3) := by decide +kernel
theorem dX1_takeBack_30 : decode cX1_takeBack 30 = .ok (.aload_n 1, 1) := by decide +kernel
theorem dX1_takeBack_31 : decode cX1_takeBack 31 = .ok (.aload_n 2, 1) := by decide +kernel
theorem dX1_takeBack_32 : decode cX1_takeBack 32 = .ok (.invokevirtual 35, 3) := by decide +kernel
theorem dX1_takeBack_35 : decode cX1_takeBack 35 = .ok (.aload_n 0, 1) := by decide +kernel
theorem dX1_takeBack_36 : decode cX1_takeBack 36 = .ok (.getfield 18, 3) := by decide +kernel
theorem dX1_takeBack_39 : decode cX1_takeBack 39 = .ok (.ireturn, 1) := by decide +kernel
theorem dX1_forgetAll_0 : decode cX1_forgetAll 0 = .ok (.aload_n 0, 1) := by decide +kernel
theorem dX1_forgetAll_1 : decode cX1_forgetAll 1 = .ok (.iconst 0, 1) := by decide +kernel
theorem dX1_forgetAll_2 : decode cX1_forgetAll 2 = .ok (.putfield 18, 3) := by decide +kernel
theorem dX1_forgetAll_5 : decode cX1_forgetAll 5 = .ok (.return_, 1) := by decide +kernel
theorem dX2_next_0 : decode cX2_next 0 = .ok (.lload_n 0, 1) := by decide +kernel
theorem dX2_next_1 : decode cX2_next 1 = .ok (.ldc2_w 9, 3) := by decide +kernel
theorem dX2_next_4 : decode cX2_next 4 = .ok (.lmul, 1) := by decide +kernel
theorem dX2_next_5 : decode cX2_next 5 = .ok (.ldc2_w 11, 3) := by decide +kernel
theorem dX2_next_8 : decode cX2_next 8 = .ok (.ladd, 1) := by decide +kernel
theorem dX2_next_9 : decode cX2_next 9 = .ok (.lreturn, 1) := by decide +kernel
theorem dX2_wrongBit_0 : decode cX2_wrongBit 0 = .ok (.lload_n 0, 1) := by decide +kernel
theorem dX2_wrongBit_1 : decode cX2_wrongBit 1 = .ok (.bipush 33, 2) := by decide +kernel
theorem dX2_wrongBit_3 : decode cX2_wrongBit 3 = .ok (.lushr, 1) := by decide +kernel
theorem dX2_wrongBit_4 : decode cX2_wrongBit 4 = .ok (.l2i, 1) := by decide +kernel
theorem dX2_wrongBit_5 : decode cX2_wrongBit 5 = .ok (.istore 4, 2) := by decide +kernel
theorem dX2_wrongBit_7 : decode cX2_wrongBit 7 = .ok (.iload 4, 2) := by decide +kernel
theorem dX2_wrongBit_9 : decode cX2_wrongBit 9 = .ok (.bipush 10, 2) := by decide +kernel
theorem dX2_wrongBit_11 : decode cX2_wrongBit 11 = .ok (.irem, 1) := by decide +kernel
theorem dX2_wrongBit_12 : decode cX2_wrongBit 12 = .ok (.iload_n 2, 1) := by decide +kernel
theorem dX2_wrongBit_13 : decode cX2_wrongBit 13 = .ok (.iload_n 3, 1) := by decide +kernel
theorem dX2_wrongBit_14 : decode cX2_wrongBit 14 = .ok (.imul, 1) := by decide +kernel
theorem dX2_wrongBit_15 : decode cX2_wrongBit 15 = .ok (.if_icmp .ge 14, 3) := by decide +kernel
theorem dX2_wrongBit_18 : decode cX2_wrongBit 18 = .ok (.iload 4, 2) := by decide +kernel
theorem dX2_wrongBit_20 : decode cX2_wrongBit 20 = .ok (.bipush 16, 2) := by decide +kernel
theorem dX2_wrongBit_22 : decode cX2_wrongBit 22 = .ok (.idiv, 1) := by decide +kernel
theorem dX2_wrongBit_23 : decode cX2_wrongBit 23 = .ok (.bipush 12, 2) := by decide +kernel
theorem dX2_wrongBit_25 : decode cX2_wrongBit 25 = .ok (.irem, 1) := by decide +kernel
theorem dX2_wrongBit_26 : decode cX2_wrongBit 26 = .ok (.goto 5, 3) := by decide +kernel
theorem dX2_wrongBit_29 : decode cX2_wrongBit 29 = .ok (.bipush (-9), 2) := by decide +kernel
theorem dX2_wrongBit_31 : decode cX2_wrongBit 31 = .ok (.ireturn, 1) := by decide +kernel
theorem dX2_changed_0 : decode cX2_changed 0 = .ok (.iload_n 1, 1) := by decide +kernel
theorem dX2_changed_1 : decode cX2_changed 1 = .ok (.bipush (-9), 2) := by decide +kernel
theorem dX2_changed_3 : decode cX2_changed 3 = .ok (.if_icmp .ne 7, 3) := by decide +kernel
theorem dX2_changed_6 : decode cX2_changed 6 = .ok (.iload_n 0, 1) := by decide +kernel
theorem dX2_changed_7 : decode cX2_changed 7 = .ok (.goto 8, 3) := by decide +kernel
theorem dX2_changed_10 : decode cX2_changed 10 = .ok (.iload_n 0, 1) := by decide +kernel
theorem dX2_changed_11 : decode cX2_changed 11 = .ok (.iconst 1, 1) := by decide +kernel
theorem dX2_changed_12 : decode cX2_changed 12 = .ok (.iload_n 1, 1) := by decide +kernel
theorem dX2_changed_13 : decode cX2_changed 13 = .ok (.ishl, 1) := by decide +kernel
theorem dX2_changed_14 : decode cX2_changed 14 = .ok (.ixor, 1) := by decide +kernel
theorem dX2_changed_15 : decode cX2_changed 15 = .ok (.ireturn, 1) := by decide +kernel
set_option maxRecDepth 20000 in
theorem ggX2_learned_X2_wrongBit : GoodIn wsX2_learned wsX2_wrongBit := goodIn_r _ [4] (by decide +kernel) (by decide +kernel)
set_option maxRecDepth 20000 in
theorem gX2_learned_X2_wrongBit : GoodIn wsX2_learned (va_wsS RX2 13 yX2_wrongBit wsX2_wrongBit) := goodIn_app (goodIn_of _ (by decide +kernel)) ggX2_learned_X2_wrongBit
set_option maxRecDepth 20000 in
theorem ggX2_learned_X2_changed : GoodIn wsX2_learned wsX2_changed := goodIn_r _ [7] (by decide +kernel) (by decide +kernel)
set_option maxRecDepth 20000 in
theorem gX2_learned_X2_changed : GoodIn wsX2_learned (va_wsS RX2 19 yX2_changed wsX2_changed) := goodIn_app (goodIn_of _ (by decide +kernel)) ggX2_learned_X2_changed
theorem dX2_learned_0 : decode cX2_learned 0 = .ok (.iload_n 0, 1) := by decide +kernel
theorem dX2_learned_1 : decode cX2_learned 1 = .ok (.lload_n 1, 1) := by decide +kernel
theorem dX2_learned_2 : decode cX2_learned 2 = .ok (.iload_n 3, 1) := by decide +kernel
theorem dX2_learned_3 : decode cX2_learned 3 = .ok (.iload 4, 2) := by decide +kernel
theorem dX2_learned_5 : decode cX2_learned 5 = .ok (.invokestatic 13, 3) := by decide +kernel
theorem dX2_learned_8 : decode cX2_learned 8 = .ok (.invokestatic 19, 3) := by decide +kernel
theorem dX2_learned_11 : decode cX2_learned 11 = .ok (.ireturn, 1) := by decide +kernel
theorem dX3_init_0 : decode cX3_init 0 = .ok (.aload_n 0, 1) := by decide +kernel
theorem dX3_init_1 : decode cX3_init 1 = .ok (.invokespecial 3, 3) := by decide +kernel
theorem dX3_init_4 : decode cX3_init 4 = .ok (.return_, 1) := by decide +kernel
set_option maxRecDepth 20000 in
theorem ggX3_read_X3_readHead : GoodIn wsX3_read wsX3_readHead := goodIn_r _ [6, 1, 7, 8, 9, 10, 11, 12, 13, 14, 15, 16, 5, 17, 18, 19, 20, 21, 22, 23, 24, 25, 26, 27, 28, 29, 30, 31, 32, 33, 34, 35, 36, 37, 38, 39, 40, 41, 42, 43, 44, 45, 46, 47, 48, 49, 50, 51, 121, 122, 123, 124, 125, 126, 127, 128, 129, 130, 131, 132, 133, 134, 135, 136, 137, 138, 139, 140, 141] (by decide +kernel) (by decide +kernel)
set_option maxRecDepth 20000 in
theorem gX3_read_X3_readHead : GoodIn wsX3_read (wsV RX3 15 RX3 yX3_readHead wsX3_readHead) := goodIn_app (goodIn_of _ (by decide +kernel)) ggX3_read_X3_readHead
set_option maxRecDepth 20000 in
theorem ggX3_read_X8_length : GoodIn wsX3_read wsX8_length := goodIn_r _ [55, 12, 122, 123] (by decide +kernel) (by decide +kernel)
set_option maxRecDepth 20000 in
theorem gX3_read_X8_length : GoodIn wsX3_read (wsV RX3 19 RX8 yX8_length wsX8_length) := goodIn_app (goodIn_of _ (by decide +kernel)) ggX3_read_X8_length
set_option maxRecDepth 20000 in
theorem ggX3_read_X3_readPart : GoodIn wsX3_read wsX3_readPart := goodIn_r _ [59, 1, 7, 8, 9, 10, 11, 12, 13, 60, 61, 62, 38, 63, 40, 64, 65, 66, 5, 67, 68, 69, 70, 26, 71, 31, 14, 15, 16, 17, 18, 19, 20, 21, 22, 72, 73, 74, 75, 28, 76, 77, 78, 79, 80, 81, 82, 83, 84, 85, 86, 87, 88, 89, 90, 91, 92, 30, 93, 94, 95, 96, 97, 98, 99, 44, 100, 46, 101, 102, 103, 104, 105, 106, 107, 108, 109, 110, 111, 112, 113, 114, 115, 116, 117, 118, 119, 120, 32, 33, 121, 124, 125, 126, 127, 128, 129, 130, 122, 123, 131, 132, 133, 134, 135, 136, 137, 138, 139, 140, 141] (by decide +kernel) (by decide +kernel)
set_option maxRecDepth 20000 in
theorem gX3_read_X3_readPart : GoodIn wsX3_read (wsV RX3 25 RX3 yX3_readPart wsX3_readPart) := goodIn_app (goodIn_of _ (by decide +kernel)) ggX3_read_X3_readPart
theorem dX3_read_0 : decode cX3_read 0 = .ok (.aload_n 0, 1) := by decide +kernel
theorem dX3_read_1 : decode cX3_read 1 = .ok (.iconst 0, 1) := by decide +kernel
theorem dX3_read_2 : decode cX3_read 2 = .ok (.putfield 9, 3) := by decide +kernel
theorem dX3_read_5 : decode cX3_read 5 = .ok (.aload_n 0, 1) := by decide +kernel
theorem dX3_read_6 : decode cX3_read 6 = .ok (.aload_n 1, 1) := by decide +kernel
theorem dX3_read_7 : decode cX3_read 7 = .ok (.aload_n 2, 1) := by decide +kernel
theorem dX3_read_8 : decode cX3_read 8 = .ok (.invokevirtual 15, 3) := by decide +kernel
theorem dX3_read_11 : decode cX3_read 11 = .ok (.istore_n 3, 1) := by decide +kernel
theorem dX3_read_12 : decode cX3_read 12 = .ok (.iconst 0, 1) := by decide +kernel
theorem dX3_read_13 : decode cX3_read 13 = .ok (.istore 4, 2) := by decide +kernel
theorem dX3_read_15 : decode cX3_read 15 = .ok (.iload_n 3, 1) := by decide +kernel
theorem dX3_read_16 : decode cX3_read 16 = .ok (.ifCond .eq 34, 3) := by decide +kernel
theorem dX3_read_19 : decode cX3_read 19 = .ok (.iload 4, 2) := by decide +kernel
theorem dX3_read_21 : decode cX3_read 21 = .ok (.bipush 120, 2) := by decide +kernel
theorem dX3_read_23 : decode cX3_read 23 = .ok (.if_icmp .ge 27, 3) := by decide +kernel
theorem dX3_read_26 : decode cX3_read 26 = .ok (.aload_n 0, 1) := by decide +kernel
theorem dX3_read_27 : decode cX3_read 27 = .ok (.getfield 9, 3) := by decide +kernel
theorem dX3_read_30 : decode cX3_read 30 = .ok (.aload_n 1, 1) := by decide +kernel
theorem dX3_read_31 : decode cX3_read 31 = .ok (.invokevirtual 19, 3) := by decide +kernel
theorem dX3_read_34 : decode cX3_read 34 = .ok (.if_icmp .ge 16, 3) := by decide +kernel
theorem dX3_read_37 : decode cX3_read 37 = .ok (.aload_n 0, 1) := by decide +kernel
theorem dX3_read_38 : decode cX3_read 38 = .ok (.aload_n 1, 1) := by decide +kernel
theorem dX3_read_39 : decode cX3_read 39 = .ok (.aload_n 2, 1) := by decide +kernel
theorem dX3_read_40 : decode cX3_read 40 = .ok (.invokevirtual 25, 3) := by decide +kernel
theorem dX3_read_43 : decode cX3_read 43 = .ok (.istore_n 3, 1) := by decide +kernel
theorem dX3_read_44 : decode cX3_read 44 = .ok (.iinc 4 1, 3) := by decide +kernel
theorem dX3_read_47 : decode cX3_read 47 = .ok (.goto (-32), 3) := by decide +kernel
theorem dX3_read_50 : decode cX3_read 50 = .ok (.iload_n 3, 1) := by decide +kernel
theorem dX3_read_51 : decode cX3_read 51 = .ok (.ifCond .eq 8, 3) := by decide +kernel
theorem dX3_read_54 : decode cX3_read 54 = .ok (.bipush (-9), 2) := by decide +kernel
theorem dX3_read_56 : decode cX3_read 56 = .ok (.goto 7, 3) := by decide +kernel
theorem dX3_read_59 : decode cX3_read 59 = .ok (.aload_n 0, 1) := by decide +kernel
theorem dX3_read_60 : decode cX3_read 60 = .ok (.getfield 9, 3) := by decide +kernel
theorem dX3_read_63 : decode cX3_read 63 = .ok (.ireturn, 1) := by decide +kernel
set_option maxRecDepth 20000 in
theorem ggX3_readHead_X8_signAt : GoodIn wsX3_readHead wsX8_signAt := goodIn_r _ [6, 7, 8, 49, 50] (by decide +kernel) (by decide +kernel)
set_option maxRecDepth 20000 in
theorem gX3_readHead_X8_signAt : GoodIn wsX3_readHead (wsV RX3 28 RX8 yX8_signAt wsX8_signAt) := goodIn_app (goodIn_of _ (by decide +kernel)) ggX3_readHead_X8_signAt
set_option maxRecDepth 20000 in
theorem ggX3_readHead_X3_readNumber : GoodIn wsX3_readHead wsX3_readNumber := goodIn_r _ [13, 1, 14, 2, 3, 4, 5, 6, 7, 8, 15, 16, 17, 18, 48, 49, 50] (by decide +kernel) (by decide +kernel)
set_option maxRecDepth 20000 in
theorem gX3_readHead_X3_readNumber : GoodIn wsX3_readHead (wsV RX3 32 RX3 yX3_readNumber wsX3_readNumber) := goodIn_app (goodIn_of _ (by decide +kernel)) ggX3_readHead_X3_readNumber
set_option maxRecDepth 20000 in
theorem ggX3_readHead_X7_clear : GoodIn wsX3_readHead wsX7_clear := goodIn_r _ [23, 24, 25, 26, 27, 28, 29, 30, 31, 32, 33, 34, 35, 36, 37, 38, 39, 40, 41, 42, 43, 44, 45, 46, 47, 51, 52, 53, 54, 55, 56, 57, 58, 59, 60, 61, 62, 63, 64, 65, 66, 67, 68] (by decide +kernel) (by decide +kernel)
set_option maxRecDepth 20000 in
theorem gX3_readHead_X7_clear : GoodIn wsX3_readHead (wsV RX3 36 RX7 yX7_clear wsX7_clear) := goodIn_app (goodIn_of _ (by decide +kernel)) ggX3_readHead_X7_clear
theorem dX3_readHead_0 : decode cX3_readHead 0 = .ok (.aload_n 1, 1) := by decide +kernel
theorem dX3_readHead_1 : decode cX3_readHead 1 = .ok (.aload_n 0, 1) := by decide +kernel
theorem dX3_readHead_2 : decode cX3_readHead 2 = .ok (.getfield 9, 3) := by decide +kernel
theorem dX3_readHead_5 : decode cX3_readHead 5 = .ok (.invokevirtual 28, 3) := by decide +kernel
theorem dX3_readHead_8 : decode cX3_readHead 8 = .ok (.bipush 82, 2) := by decide +kernel
theorem dX3_readHead_10 : decode cX3_readHead 10 = .ok (.if_icmp .eq 5, 3) := by decide +kernel
theorem dX3_readHead_13 : decode cX3_readHead 13 = .ok (.iconst 0, 1) := by decide +kernel
theorem dX3_readHead_14 : decode cX3_readHead 14 = .ok (.ireturn, 1) := by decide +kernel
theorem dX3_readHead_15 : decode cX3_readHead 15 = .ok (.aload_n 0, 1) := by decide +kernel
theorem dX3_readHead_16 : decode cX3_readHead 16 = .ok (.dup, 1) := by decide +kernel
theorem dX3_readHead_17 : decode cX3_readHead 17 = .ok (.getfield 9, 3) := by decide +kernel
theorem dX3_readHead_20 : decode cX3_readHead 20 = .ok (.iconst 1, 1) := by decide +kernel
theorem dX3_readHead_21 : decode cX3_readHead 21 = .ok (.iadd, 1) := by decide +kernel
theorem dX3_readHead_22 : decode cX3_readHead 22 = .ok (.putfield 9, 3) := by decide +kernel
theorem dX3_readHead_25 : decode cX3_readHead 25 = .ok (.aload_n 0, 1) := by decide +kernel
theorem dX3_readHead_26 : decode cX3_readHead 26 = .ok (.aload_n 1, 1) := by decide +kernel
theorem dX3_readHead_27 : decode cX3_readHead 27 = .ok (.iconst 1, 1) := by decide +kernel
theorem dX3_readHead_28 : decode cX3_readHead 28 = .ok (.iconst 2, 1) := by decide +kernel
theorem dX3_readHead_29 : decode cX3_readHead 29 = .ok (.bipush 9, 2) := by decide +kernel
theorem dX3_readHead_31 : decode cX3_readHead 31 = .ok (.invokevirtual 32, 3) := by decide +kernel
theorem dX3_readHead_34 : decode cX3_readHead 34 = .ok (.istore_n 3, 1) := by decide +kernel
theorem dX3_readHead_35 : decode cX3_readHead 35 = .ok (.iload_n 3, 1) := by decide +kernel
theorem dX3_readHead_36 : decode cX3_readHead 36 = .ok (.bipush (-9), 2) := by decide +kernel
theorem dX3_readHead_38 : decode cX3_readHead 38 = .ok (.if_icmp .ne 5, 3) := by decide +kernel
theorem dX3_readHead_41 : decode cX3_readHead 41 = .ok (.iconst 0, 1) := by decide +kernel
theorem dX3_readHead_42 : decode cX3_readHead 42 = .ok (.ireturn, 1) := by decide +kernel
theorem dX3_readHead_43 : decode cX3_readHead 43 = .ok (.aload_n 2, 1) := by decide +kernel
theorem dX3_readHead_44 : decode cX3_readHead 44 = .ok (.iload_n 3, 1) := by decide +kernel
theorem dX3_readHead_45 : decode cX3_readHead 45 = .ok (.invokevirtual 36, 3) := by decide +kernel
theorem dX3_readHead_48 : decode cX3_readHead 48 = .ok (.iconst 1, 1) := by decide +kernel
theorem dX3_readHead_49 : decode cX3_readHead 49 = .ok (.ireturn, 1) := by decide +kernel
set_option maxRecDepth 20000 in
theorem ggX3_readPart_X8_signAt : GoodIn wsX3_readPart wsX8_signAt := goodIn_r _ [6, 7, 8, 98, 99] (by decide +kernel) (by decide +kernel)
set_option maxRecDepth 20000 in
theorem gX3_readPart_X8_signAt : GoodIn wsX3_readPart (wsV RX3 28 RX8 yX8_signAt wsX8_signAt) := goodIn_app (goodIn_of _ (by decide +kernel)) ggX3_readPart_X8_signAt
set_option maxRecDepth 20000 in
theorem ggX3_readPart_X4_count : GoodIn wsX3_readPart wsX4_count := goodIn_r _ [13, 14, 100, 101, 102, 103, 104, 105] (by decide +kernel) (by decide +kernel)
set_option maxRecDepth 20000 in
theorem gX3_readPart_X4_count : GoodIn wsX3_readPart (wsV RX3 46 RX4 yX4_count wsX4_count) := goodIn_app (goodIn_of _ (by decide +kernel)) ggX3_readPart_X4_count
set_option maxRecDepth 20000 in
theorem ggX3_readPart_X3_readCode : GoodIn wsX3_readPart wsX3_readCode := goodIn_r _ [19, 1, 20, 21, 22, 23, 24, 25, 26, 27, 28, 18, 29, 30, 2, 3, 4, 5, 6, 7, 8, 31, 32, 33, 34, 35, 36, 37, 38, 39, 40, 41, 42, 12, 43, 14, 44, 45, 46, 47, 48, 49, 50, 51, 52, 53, 54, 55, 56, 57, 58, 59, 60, 61, 90, 91, 92, 93, 94, 95, 96, 97, 98, 99, 100, 101, 102, 103, 104, 105] (by decide +kernel) (by decide +kernel)
set_option maxRecDepth 20000 in
theorem gX3_readPart_X3_readCode : GoodIn wsX3_readPart (wsV RX3 51 RX3 yX3_readCode wsX3_readCode) := goodIn_app (goodIn_of _ (by decide +kernel)) ggX3_readPart_X3_readCode
set_option maxRecDepth 20000 in
theorem ggX3_readPart_X0_hasRoom : GoodIn wsX3_readPart wsX0_hasRoom := goodIn_r _ [66, 67, 106, 107, 108, 109, 110] (by decide +kernel) (by decide +kernel)
set_option maxRecDepth 20000 in
theorem gX3_readPart_X0_hasRoom : GoodIn wsX3_readPart (wsV RX3 58 RX0 yX0_hasRoom wsX0_hasRoom) := goodIn_app (goodIn_of _ (by decide +kernel)) ggX3_readPart_X0_hasRoom
set_option maxRecDepth 20000 in
theorem ggX3_readPart_X3_readDevice : GoodIn wsX3_readPart wsX3_readDevice := goodIn_r _ [71, 1, 20, 21, 22, 23, 24, 25, 26, 27, 28, 18, 29, 30, 2, 3, 4, 5, 6, 7, 8, 31, 32, 33, 34, 72, 73, 74, 65, 75, 67, 76, 77, 78, 79, 63, 64, 66, 90, 91, 92, 93, 94, 95, 96, 97, 98, 99, 106, 107, 108, 109, 110] (by decide +kernel) (by decide +kernel)
set_option maxRecDepth 20000 in
theorem gX3_readPart_X3_readDevice : GoodIn wsX3_readPart (wsV RX3 64 RX3 yX3_readDevice wsX3_readDevice) := goodIn_app (goodIn_of _ (by decide +kernel)) ggX3_readPart_X3_readDevice
set_option maxRecDepth 20000 in
theorem ggX3_readPart_X3_readSetting : GoodIn wsX3_readPart wsX3_readSetting := goodIn_r _ [83, 1, 26, 27, 28, 18, 29, 30, 2, 3, 4, 5, 6, 7, 8, 31, 32, 33, 34, 84, 85, 86, 23, 87, 88, 89, 90, 98, 99, 91, 92, 93, 94, 95, 96, 97] (by decide +kernel) (by decide +kernel)
set_option maxRecDepth 20000 in
theorem gX3_readPart_X3_readSetting : GoodIn wsX3_readPart (wsV RX3 67 RX3 yX3_readSetting wsX3_readSetting) := goodIn_app (goodIn_of _ (by decide +kernel)) ggX3_readPart_X3_readSetting
theorem dX3_readPart_0 : decode cX3_readPart 0 = .ok (.aload_n 1, 1) := by decide +kernel
theorem dX3_readPart_1 : decode cX3_readPart 1 = .ok (.aload_n 0, 1) := by decide +kernel
theorem dX3_readPart_2 : decode cX3_readPart 2 = .ok (.getfield 9, 3) := by decide +kernel
theorem dX3_readPart_5 : decode cX3_readPart 5 = .ok (.invokevirtual 28, 3) := by decide +kernel
theorem dX3_readPart_8 : decode cX3_readPart 8 = .ok (.lookupswitch 115 #[(100, 71), (107, 44), (110, 96), (115, 105)], 44) := by decide +kernel
theorem dX3_readPart_52 : decode cX3_readPart 52 = .ok (.aload_n 2, 1) := by decide +kernel
theorem dX3_readPart_53 : decode cX3_readPart 53 = .ok (.getfield 42, 3) := by decide +kernel
theorem dX3_readPart_56 : decode cX3_readPart 56 = .ok (.invokevirtual 46, 3) := by decide +kernel
theorem dX3_readPart_59 : decode cX3_readPart 59 = .ok (.bipush 12, 2) := by decide +kernel
theorem dX3_readPart_61 : decode cX3_readPart 61 = .ok (.if_icmp .ge 16, 3) := by decide +kernel
theorem dX3_readPart_64 : decode cX3_readPart 64 = .ok (.aload_n 0, 1) := by decide +kernel
theorem dX3_readPart_65 : decode cX3_readPart 65 = .ok (.aload_n 1, 1) := by decide +kernel
theorem dX3_readPart_66 : decode cX3_readPart 66 = .ok (.aload_n 2, 1) := by decide +kernel
theorem dX3_readPart_67 : decode cX3_readPart 67 = .ok (.invokevirtual 51, 3) := by decide +kernel
theorem dX3_readPart_70 : decode cX3_readPart 70 = .ok (.ifCond .eq 7, 3) := by decide +kernel
theorem dX3_readPart_73 : decode cX3_readPart 73 = .ok (.iconst 1, 1) := by decide +kernel
theorem dX3_readPart_74 : decode cX3_readPart 74 = .ok (.goto 4, 3) := by decide +kernel
theorem dX3_readPart_77 : decode cX3_readPart 77 = .ok (.iconst 0, 1) := by decide +kernel
theorem dX3_readPart_78 : decode cX3_readPart 78 = .ok (.ireturn, 1) := by decide +kernel
theorem dX3_readPart_79 : decode cX3_readPart 79 = .ok (.aload_n 2, 1) := by decide +kernel
theorem dX3_readPart_80 : decode cX3_readPart 80 = .ok (.getfield 54, 3) := by decide +kernel
theorem dX3_readPart_83 : decode cX3_readPart 83 = .ok (.invokevirtual 58, 3) := by decide +kernel
theorem dX3_readPart_86 : decode cX3_readPart 86 = .ok (.ifCond .eq 16, 3) := by decide +kernel
theorem dX3_readPart_89 : decode cX3_readPart 89 = .ok (.aload_n 0, 1) := by decide +kernel
theorem dX3_readPart_90 : decode cX3_readPart 90 = .ok (.aload_n 1, 1) := by decide +kernel
theorem dX3_readPart_91 : decode cX3_readPart 91 = .ok (.aload_n 2, 1) := by decide +kernel
theorem dX3_readPart_92 : decode cX3_readPart 92 = .ok (.invokevirtual 64, 3) := by decide +kernel
theorem dX3_readPart_95 : decode cX3_readPart 95 = .ok (.ifCond .eq 7, 3) := by decide +kernel
theorem dX3_readPart_98 : decode cX3_readPart 98 = .ok (.iconst 1, 1) := by decide +kernel
theorem dX3_readPart_99 : decode cX3_readPart 99 = .ok (.goto 4, 3) := by decide +kernel
theorem dX3_readPart_102 : decode cX3_readPart 102 = .ok (.iconst 0, 1) := by decide +kernel
theorem dX3_readPart_103 : decode cX3_readPart 103 = .ok (.ireturn, 1) := by decide +kernel
theorem dX3_readPart_104 : decode cX3_readPart 104 = .ok (.aload_n 0, 1) := by decide +kernel
theorem dX3_readPart_105 : decode cX3_readPart 105 = .ok (.aload_n 1, 1) := by decide +kernel
theorem dX3_readPart_106 : decode cX3_readPart 106 = .ok (.aload_n 2, 1) := by decide +kernel
theorem dX3_readPart_107 : decode cX3_readPart 107 = .ok (.iconst 0, 1) := by decide +kernel
theorem dX3_readPart_108 : decode cX3_readPart 108 = .ok (.iconst 3, 1) := by decide +kernel
theorem dX3_readPart_109 : decode cX3_readPart 109 = .ok (.invokevirtual 67, 3) := by decide +kernel
theorem dX3_readPart_112 : decode cX3_readPart 112 = .ok (.ireturn, 1) := by decide +kernel
theorem dX3_readPart_113 : decode cX3_readPart 113 = .ok (.aload_n 0, 1) := by decide +kernel
theorem dX3_readPart_114 : decode cX3_readPart 114 = .ok (.aload_n 1, 1) := by decide +kernel
theorem dX3_readPart_115 : decode cX3_readPart 115 = .ok (.aload_n 2, 1) := by decide +kernel
theorem dX3_readPart_116 : decode cX3_readPart 116 = .ok (.iconst 1, 1) := by decide +kernel
theorem dX3_readPart_117 : decode cX3_readPart 117 = .ok (.bipush 8, 2) := by decide +kernel
theorem dX3_readPart_119 : decode cX3_readPart 119 = .ok (.invokevirtual 67, 3) := by decide +kernel
theorem dX3_readPart_122 : decode cX3_readPart 122 = .ok (.ireturn, 1) := by decide +kernel
theorem dX3_readPart_123 : decode cX3_readPart 123 = .ok (.iconst 0, 1) := by decide +kernel
theorem dX3_readPart_124 : decode cX3_readPart 124 = .ok (.ireturn, 1) := by decide +kernel
set_option maxRecDepth 20000 in
theorem ggX3_readCode_X7_houses : GoodIn wsX3_readCode wsX7_houses := goodIn_r _ [6, 7, 55, 56, 57, 58, 59, 60, 61] (by decide +kernel) (by decide +kernel)
set_option maxRecDepth 20000 in
theorem gX3_readCode_X7_houses : GoodIn wsX3_readCode (wsV RX3 71 RX7 yX7_houses wsX7_houses) := goodIn_app (goodIn_of _ (by decide +kernel)) ggX3_readCode_X7_houses
set_option maxRecDepth 20000 in
theorem ggX3_readCode_X3_readNumber : GoodIn wsX3_readCode wsX3_readNumber := goodIn_r _ [12, 1, 13, 14, 15, 16, 17, 18, 19, 20, 21, 22, 23, 24, 54, 62, 63] (by decide +kernel) (by decide +kernel)
set_option maxRecDepth 20000 in
theorem gX3_readCode_X3_readNumber : GoodIn wsX3_readCode (wsV RX3 32 RX3 yX3_readNumber wsX3_readNumber) := goodIn_app (goodIn_of _ (by decide +kernel)) ggX3_readCode_X3_readNumber
set_option maxRecDepth 20000 in
theorem ggX3_readCode_X7_enterCode : GoodIn wsX3_readCode wsX7_enterCode := goodIn_r _ [28, 29, 30, 31, 32, 33, 34, 35, 36, 37, 38, 39, 40, 41, 42, 43, 44, 45, 46, 47, 5, 48, 49, 50, 51, 52, 53, 7, 55, 56, 57, 58, 59, 60, 61, 64, 65, 66, 67, 68, 69] (by decide +kernel) (by decide +kernel)
set_option maxRecDepth 20000 in
theorem gX3_readCode_X7_enterCode : GoodIn wsX3_readCode (wsV RX3 74 RX7 yX7_enterCode wsX7_enterCode) := goodIn_app (goodIn_of _ (by decide +kernel)) ggX3_readCode_X7_enterCode
theorem dX3_readCode_0 : decode cX3_readCode 0 = .ok (.aload_n 0, 1) := by decide +kernel
theorem dX3_readCode_1 : decode cX3_readCode 1 = .ok (.dup, 1) := by decide +kernel
theorem dX3_readCode_2 : decode cX3_readCode 2 = .ok (.getfield 9, 3) := by decide +kernel
theorem dX3_readCode_5 : decode cX3_readCode 5 = .ok (.iconst 1, 1) := by decide +kernel
theorem dX3_readCode_6 : decode cX3_readCode 6 = .ok (.iadd, 1) := by decide +kernel
theorem dX3_readCode_7 : decode cX3_readCode 7 = .ok (.putfield 9, 3) := by decide +kernel
theorem dX3_readCode_10 : decode cX3_readCode 10 = .ok (.aload_n 0, 1) := by decide +kernel
theorem dX3_readCode_11 : decode cX3_readCode 11 = .ok (.aload_n 1, 1) := by decide +kernel
theorem dX3_readCode_12 : decode cX3_readCode 12 = .ok (.iconst 1, 1) := by decide +kernel
theorem dX3_readCode_13 : decode cX3_readCode 13 = .ok (.iconst 0, 1) := by decide +kernel
theorem dX3_readCode_14 : decode cX3_readCode 14 = .ok (.aload_n 2, 1) := by decide +kernel
theorem dX3_readCode_15 : decode cX3_readCode 15 = .ok (.invokevirtual 71, 3) := by decide +kernel
theorem dX3_readCode_18 : decode cX3_readCode 18 = .ok (.iconst 1, 1) := by decide +kernel
theorem dX3_readCode_19 : decode cX3_readCode 19 = .ok (.isub, 1) := by decide +kernel
theorem dX3_readCode_20 : decode cX3_readCode 20 = .ok (.invokevirtual 32, 3) := by decide +kernel
theorem dX3_readCode_23 : decode cX3_readCode 23 = .ok (.istore_n 3, 1) := by decide +kernel
theorem dX3_readCode_24 : decode cX3_readCode 24 = .ok (.iload_n 3, 1) := by decide +kernel
theorem dX3_readCode_25 : decode cX3_readCode 25 = .ok (.bipush (-9), 2) := by decide +kernel
theorem dX3_readCode_27 : decode cX3_readCode 27 = .ok (.if_icmp .ne 8, 3) := by decide +kernel
theorem dX3_readCode_30 : decode cX3_readCode 30 = .ok (.bipush (-9), 2) := by decide +kernel
theorem dX3_readCode_32 : decode cX3_readCode 32 = .ok (.goto 11, 3) := by decide +kernel
theorem dX3_readCode_35 : decode cX3_readCode 35 = .ok (.aload_n 0, 1) := by decide +kernel
theorem dX3_readCode_36 : decode cX3_readCode 36 = .ok (.aload_n 1, 1) := by decide +kernel
theorem dX3_readCode_37 : decode cX3_readCode 37 = .ok (.iconst 1, 1) := by decide +kernel
theorem dX3_readCode_38 : decode cX3_readCode 38 = .ok (.iconst 0, 1) := by decide +kernel
theorem dX3_readCode_39 : decode cX3_readCode 39 = .ok (.iconst 5, 1) := by decide +kernel
theorem dX3_readCode_40 : decode cX3_readCode 40 = .ok (.invokevirtual 32, 3) := by decide +kernel
theorem dX3_readCode_43 : decode cX3_readCode 43 = .ok (.istore 4, 2) := by decide +kernel
theorem dX3_readCode_45 : decode cX3_readCode 45 = .ok (.iload 4, 2) := by decide +kernel
theorem dX3_readCode_47 : decode cX3_readCode 47 = .ok (.bipush (-9), 2) := by decide +kernel
theorem dX3_readCode_49 : decode cX3_readCode 49 = .ok (.if_icmp .ne 8, 3) := by decide +kernel
theorem dX3_readCode_52 : decode cX3_readCode 52 = .ok (.bipush (-9), 2) := by decide +kernel
theorem dX3_readCode_54 : decode cX3_readCode 54 = .ok (.goto 13, 3) := by decide +kernel
theorem dX3_readCode_57 : decode cX3_readCode 57 = .ok (.aload_n 0, 1) := by decide +kernel
theorem dX3_readCode_58 : decode cX3_readCode 58 = .ok (.aload_n 1, 1) := by decide +kernel
theorem dX3_readCode_59 : decode cX3_readCode 59 = .ok (.iconst 4, 1) := by decide +kernel
theorem dX3_readCode_60 : decode cX3_readCode 60 = .ok (.iconst 0, 1) := by decide +kernel
theorem dX3_readCode_61 : decode cX3_readCode 61 = .ok (.sipush 4095, 3) := by decide +kernel
theorem dX3_readCode_64 : decode cX3_readCode 64 = .ok (.invokevirtual 32, 3) := by decide +kernel
theorem dX3_readCode_67 : decode cX3_readCode 67 = .ok (.istore 5, 2) := by decide +kernel
theorem dX3_readCode_69 : decode cX3_readCode 69 = .ok (.iload 5, 2) := by decide +kernel
theorem dX3_readCode_71 : decode cX3_readCode 71 = .ok (.bipush (-9), 2) := by decide +kernel
theorem dX3_readCode_73 : decode cX3_readCode 73 = .ok (.if_icmp .ne 5, 3) := by decide +kernel
theorem dX3_readCode_76 : decode cX3_readCode 76 = .ok (.iconst 0, 1) := by decide +kernel
theorem dX3_readCode_77 : decode cX3_readCode 77 = .ok (.ireturn, 1) := by decide +kernel
theorem dX3_readCode_78 : decode cX3_readCode 78 = .ok (.aload_n 2, 1) := by decide +kernel
theorem dX3_readCode_79 : decode cX3_readCode 79 = .ok (.iload_n 3, 1) := by decide +kernel
theorem dX3_readCode_80 : decode cX3_readCode 80 = .ok (.iload 4, 2) := by decide +kernel
theorem dX3_readCode_82 : decode cX3_readCode 82 = .ok (.iload 5, 2) := by decide +kernel
theorem dX3_readCode_84 : decode cX3_readCode 84 = .ok (.invokevirtual 74, 3) := by decide +kernel
theorem dX3_readCode_87 : decode cX3_readCode 87 = .ok (.pop, 1) := by decide +kernel
theorem dX3_readCode_88 : decode cX3_readCode 88 = .ok (.iconst 1, 1) := by decide +kernel
theorem dX3_readCode_89 : decode cX3_readCode 89 = .ok (.ireturn, 1) := by decide +kernel
set_option maxRecDepth 20000 in
theorem ggX3_readDevice_X7_houses : GoodIn wsX3_readDevice wsX7_houses := goodIn_r _ [6, 7, 39, 40, 41, 42, 43, 44, 45] (by decide +kernel) (by decide +kernel)
set_option maxRecDepth 20000 in
theorem gX3_readDevice_X7_houses : GoodIn wsX3_readDevice (wsV RX3 71 RX7 yX7_houses wsX7_houses) := goodIn_app (goodIn_of _ (by decide +kernel)) ggX3_readDevice_X7_houses
set_option maxRecDepth 20000 in
theorem ggX3_readDevice_X3_readNumber : GoodIn wsX3_readDevice wsX3_readNumber := goodIn_r _ [12, 1, 13, 14, 15, 16, 17, 18, 19, 20, 21, 22, 23, 24, 38, 46, 47] (by decide +kernel) (by decide +kernel)
set_option maxRecDepth 20000 in
theorem gX3_readDevice_X3_readNumber : GoodIn wsX3_readDevice (wsV RX3 32 RX3 yX3_readNumber wsX3_readNumber) := goodIn_app (goodIn_of _ (by decide +kernel)) ggX3_readDevice_X3_readNumber
set_option maxRecDepth 20000 in
theorem ggX3_readDevice_X0_add : GoodIn wsX3_readDevice wsX0_add := goodIn_r _ [29, 30, 31, 32, 33, 34, 35, 36, 28, 37, 48, 49, 50, 51, 52] (by decide +kernel) (by decide +kernel)
set_option maxRecDepth 20000 in
theorem gX3_readDevice_X0_add : GoodIn wsX3_readDevice (wsV RX3 78 RX0 yX0_add wsX0_add) := goodIn_app (goodIn_of _ (by decide +kernel)) ggX3_readDevice_X0_add
theorem dX3_readDevice_0 : decode cX3_readDevice 0 = .ok (.aload_n 0, 1) := by decide +kernel
theorem dX3_readDevice_1 : decode cX3_readDevice 1 = .ok (.dup, 1) := by decide +kernel
theorem dX3_readDevice_2 : decode cX3_readDevice 2 = .ok (.getfield 9, 3) := by decide +kernel
theorem dX3_readDevice_5 : decode cX3_readDevice 5 = .ok (.iconst 1, 1) := by decide +kernel
theorem dX3_readDevice_6 : decode cX3_readDevice 6 = .ok (.iadd, 1) := by decide +kernel
theorem dX3_readDevice_7 : decode cX3_readDevice 7 = .ok (.putfield 9, 3) := by decide +kernel
theorem dX3_readDevice_10 : decode cX3_readDevice 10 = .ok (.aload_n 0, 1) := by decide +kernel
theorem dX3_readDevice_11 : decode cX3_readDevice 11 = .ok (.aload_n 1, 1) := by decide +kernel
theorem dX3_readDevice_12 : decode cX3_readDevice 12 = .ok (.iconst 1, 1) := by decide +kernel
theorem dX3_readDevice_13 : decode cX3_readDevice 13 = .ok (.iconst 0, 1) := by decide +kernel
theorem dX3_readDevice_14 : decode cX3_readDevice 14 = .ok (.aload_n 2, 1) := by decide +kernel
theorem dX3_readDevice_15 : decode cX3_readDevice 15 = .ok (.invokevirtual 71, 3) := by decide +kernel
theorem dX3_readDevice_18 : decode cX3_readDevice 18 = .ok (.iconst 1, 1) := by decide +kernel
theorem dX3_readDevice_19 : decode cX3_readDevice 19 = .ok (.isub, 1) := by decide +kernel
theorem dX3_readDevice_20 : decode cX3_readDevice 20 = .ok (.invokevirtual 32, 3) := by decide +kernel
theorem dX3_readDevice_23 : decode cX3_readDevice 23 = .ok (.istore_n 3, 1) := by decide +kernel
theorem dX3_readDevice_24 : decode cX3_readDevice 24 = .ok (.iload_n 3, 1) := by decide +kernel
theorem dX3_readDevice_25 : decode cX3_readDevice 25 = .ok (.bipush (-9), 2) := by decide +kernel
theorem dX3_readDevice_27 : decode cX3_readDevice 27 = .ok (.if_icmp .ne 8, 3) := by decide +kernel
theorem dX3_readDevice_30 : decode cX3_readDevice 30 = .ok (.bipush (-9), 2) := by decide +kernel
theorem dX3_readDevice_32 : decode cX3_readDevice 32 = .ok (.goto 13, 3) := by decide +kernel
theorem dX3_readDevice_35 : decode cX3_readDevice 35 = .ok (.aload_n 0, 1) := by decide +kernel
theorem dX3_readDevice_36 : decode cX3_readDevice 36 = .ok (.aload_n 1, 1) := by decide +kernel
theorem dX3_readDevice_37 : decode cX3_readDevice 37 = .ok (.iconst 4, 1) := by decide +kernel
theorem dX3_readDevice_38 : decode cX3_readDevice 38 = .ok (.iconst 0, 1) := by decide +kernel
theorem dX3_readDevice_39 : decode cX3_readDevice 39 = .ok (.sipush 4095, 3) := by decide +kernel
theorem dX3_readDevice_42 : decode cX3_readDevice 42 = .ok (.invokevirtual 32, 3) := by decide +kernel
theorem dX3_readDevice_45 : decode cX3_readDevice 45 = .ok (.istore 4, 2) := by decide +kernel
theorem dX3_readDevice_47 : decode cX3_readDevice 47 = .ok (.iload 4, 2) := by decide +kernel
theorem dX3_readDevice_49 : decode cX3_readDevice 49 = .ok (.bipush (-9), 2) := by decide +kernel
theorem dX3_readDevice_51 : decode cX3_readDevice 51 = .ok (.if_icmp .ne 8, 3) := by decide +kernel
theorem dX3_readDevice_54 : decode cX3_readDevice 54 = .ok (.bipush (-9), 2) := by decide +kernel
theorem dX3_readDevice_56 : decode cX3_readDevice 56 = .ok (.goto 11, 3) := by decide +kernel
theorem dX3_readDevice_59 : decode cX3_readDevice 59 = .ok (.aload_n 0, 1) := by decide +kernel
theorem dX3_readDevice_60 : decode cX3_readDevice 60 = .ok (.aload_n 1, 1) := by decide +kernel
theorem dX3_readDevice_61 : decode cX3_readDevice 61 = .ok (.iconst 1, 1) := by decide +kernel
theorem dX3_readDevice_62 : decode cX3_readDevice 62 = .ok (.iconst 0, 1) := by decide +kernel
theorem dX3_readDevice_63 : decode cX3_readDevice 63 = .ok (.iconst 3, 1) := by decide +kernel
theorem dX3_readDevice_64 : decode cX3_readDevice 64 = .ok (.invokevirtual 32, 3) := by decide +kernel
theorem dX3_readDevice_67 : decode cX3_readDevice 67 = .ok (.istore 5, 2) := by decide +kernel
theorem dX3_readDevice_69 : decode cX3_readDevice 69 = .ok (.iload 5, 2) := by decide +kernel
theorem dX3_readDevice_71 : decode cX3_readDevice 71 = .ok (.bipush (-9), 2) := by decide +kernel
theorem dX3_readDevice_73 : decode cX3_readDevice 73 = .ok (.if_icmp .ne 5, 3) := by decide +kernel
theorem dX3_readDevice_76 : decode cX3_readDevice 76 = .ok (.iconst 0, 1) := by decide +kernel
theorem dX3_readDevice_77 : decode cX3_readDevice 77 = .ok (.ireturn, 1) := by decide +kernel
theorem dX3_readDevice_78 : decode cX3_readDevice 78 = .ok (.aload_n 2, 1) := by decide +kernel
theorem dX3_readDevice_79 : decode cX3_readDevice 79 = .ok (.getfield 54, 3) := by decide +kernel
theorem dX3_readDevice_82 : decode cX3_readDevice 82 = .ok (.iload_n 3, 1) := by decide +kernel
theorem dX3_readDevice_83 : decode cX3_readDevice 83 = .ok (.iload 4, 2) := by decide +kernel
theorem dX3_readDevice_85 : decode cX3_readDevice 85 = .ok (.iload 5, 2) := by decide +kernel
theorem dX3_readDevice_87 : decode cX3_readDevice 87 = .ok (.invokevirtual 78, 3) := by decide +kernel
theorem dX3_readDevice_90 : decode cX3_readDevice 90 = .ok (.pop, 1) := by decide +kernel
theorem dX3_readDevice_91 : decode cX3_readDevice 91 = .ok (.iconst 1, 1) := by decide +kernel
theorem dX3_readDevice_92 : decode cX3_readDevice 92 = .ok (.ireturn, 1) := by decide +kernel
set_option maxRecDepth 20000 in
theorem ggX3_readSetting_X3_readNumber : GoodIn wsX3_readSetting wsX3_readNumber := goodIn_r _ [6, 1, 7, 8, 9, 10, 11, 12, 13, 14, 15, 16, 17, 18, 26, 27, 28] (by decide +kernel) (by decide +kernel)
set_option maxRecDepth 20000 in
theorem gX3_readSetting_X3_readNumber : GoodIn wsX3_readSetting (wsV RX3 32 RX3 yX3_readNumber wsX3_readNumber) := goodIn_app (goodIn_of _ (by decide +kernel)) ggX3_readSetting_X3_readNumber
set_option maxRecDepth 20000 in
theorem ggX3_readSetting_X7_changeSetting : GoodIn wsX3_readSetting wsX7_changeSetting := goodIn_r _ [23, 24, 25, 29, 30, 31, 32, 33, 34, 35] (by decide +kernel) (by decide +kernel)
set_option maxRecDepth 20000 in
theorem gX3_readSetting_X7_changeSetting : GoodIn wsX3_readSetting (wsV RX3 81 RX7 yX7_changeSetting wsX7_changeSetting) := goodIn_app (goodIn_of _ (by decide +kernel)) ggX3_readSetting_X7_changeSetting
theorem dX3_readSetting_0 : decode cX3_readSetting 0 = .ok (.aload_n 0, 1) := by decide +kernel
theorem dX3_readSetting_1 : decode cX3_readSetting 1 = .ok (.dup, 1) := by decide +kernel
theorem dX3_readSetting_2 : decode cX3_readSetting 2 = .ok (.getfield 9, 3) := by decide +kernel
theorem dX3_readSetting_5 : decode cX3_readSetting 5 = .ok (.iconst 1, 1) := by decide +kernel
theorem dX3_readSetting_6 : decode cX3_readSetting 6 = .ok (.iadd, 1) := by decide +kernel
theorem dX3_readSetting_7 : decode cX3_readSetting 7 = .ok (.putfield 9, 3) := by decide +kernel
theorem dX3_readSetting_10 : decode cX3_readSetting 10 = .ok (.aload_n 0, 1) := by decide +kernel
theorem dX3_readSetting_11 : decode cX3_readSetting 11 = .ok (.aload_n 1, 1) := by decide +kernel
theorem dX3_readSetting_12 : decode cX3_readSetting 12 = .ok (.iconst 1, 1) := by decide +kernel
theorem dX3_readSetting_13 : decode cX3_readSetting 13 = .ok (.iconst 0, 1) := by decide +kernel
theorem dX3_readSetting_14 : decode cX3_readSetting 14 = .ok (.iload 4, 2) := by decide +kernel
theorem dX3_readSetting_16 : decode cX3_readSetting 16 = .ok (.invokevirtual 32, 3) := by decide +kernel
theorem dX3_readSetting_19 : decode cX3_readSetting 19 = .ok (.istore 5, 2) := by decide +kernel
theorem dX3_readSetting_21 : decode cX3_readSetting 21 = .ok (.iload 5, 2) := by decide +kernel
theorem dX3_readSetting_23 : decode cX3_readSetting 23 = .ok (.bipush (-9), 2) := by decide +kernel
theorem dX3_readSetting_25 : decode cX3_readSetting 25 = .ok (.if_icmp .ne 5, 3) := by decide +kernel
theorem dX3_readSetting_28 : decode cX3_readSetting 28 = .ok (.iconst 0, 1) := by decide +kernel
theorem dX3_readSetting_29 : decode cX3_readSetting 29 = .ok (.ireturn, 1) := by decide +kernel
theorem dX3_readSetting_30 : decode cX3_readSetting 30 = .ok (.aload_n 2, 1) := by decide +kernel
theorem dX3_readSetting_31 : decode cX3_readSetting 31 = .ok (.iload_n 3, 1) := by decide +kernel
theorem dX3_readSetting_32 : decode cX3_readSetting 32 = .ok (.iload 5, 2) := by decide +kernel
theorem dX3_readSetting_34 : decode cX3_readSetting 34 = .ok (.invokevirtual 81, 3) := by decide +kernel
theorem dX3_readSetting_37 : decode cX3_readSetting 37 = .ok (.pop, 1) := by decide +kernel
theorem dX3_readSetting_38 : decode cX3_readSetting 38 = .ok (.iconst 1, 1) := by decide +kernel
theorem dX3_readSetting_39 : decode cX3_readSetting 39 = .ok (.ireturn, 1) := by decide +kernel
set_option maxRecDepth 20000 in
theorem ggX3_readNumber_X8_signAt : GoodIn wsX3_readNumber wsX8_signAt := goodIn_r _ [7, 8, 9, 15, 16] (by decide +kernel) (by decide +kernel)
set_option maxRecDepth 20000 in
theorem gX3_readNumber_X8_signAt : GoodIn wsX3_readNumber (wsV RX3 28 RX8 yX8_signAt wsX8_signAt) := goodIn_app (goodIn_of _ (by decide +kernel)) ggX3_readNumber_X8_signAt
set_option maxRecDepth 20000 in
theorem ggX3_readNumber_X9_powerOfTen : GoodIn wsX3_readNumber wsX9_powerOfTen := goodIn_r _ [12, 13] (by decide +kernel) (by decide +kernel)
set_option maxRecDepth 20000 in
theorem gX3_readNumber_X9_powerOfTen_n87 : GoodIn wsX3_readNumber (wsX9_powerOfTen) := ggX3_readNumber_X9_powerOfTen
theorem dX3_readNumber_0 : decode cX3_readNumber 0 = .ok (.lconst 0, 1) := by decide +kernel
theorem dX3_readNumber_1 : decode cX3_readNumber 1 = .ok (.lstore 5, 2) := by decide +kernel
theorem dX3_readNumber_3 : decode cX3_readNumber 3 = .ok (.iload_n 2, 1) := by decide +kernel
theorem dX3_readNumber_4 : decode cX3_readNumber 4 = .ok (.iconst 1, 1) := by decide +kernel
theorem dX3_readNumber_5 : decode cX3_readNumber 5 = .ok (.isub, 1) := by decide +kernel
theorem dX3_readNumber_6 : decode cX3_readNumber 6 = .ok (.istore 7, 2) := by decide +kernel
theorem dX3_readNumber_8 : decode cX3_readNumber 8 = .ok (.iload 7, 2) := by decide +kernel
theorem dX3_readNumber_10 : decode cX3_readNumber 10 = .ok (.ifCond .lt 103, 3) := by decide +kernel
theorem dX3_readNumber_13 : decode cX3_readNumber 13 = .ok (.aload_n 1, 1) := by decide +kernel
theorem dX3_readNumber_14 : decode cX3_readNumber 14 = .ok (.aload_n 0, 1) := by decide +kernel
theorem dX3_readNumber_15 : decode cX3_readNumber 15 = .ok (.getfield 9, 3) := by decide +kernel
theorem dX3_readNumber_18 : decode cX3_readNumber 18 = .ok (.invokevirtual 28, 3) := by decide +kernel
theorem dX3_readNumber_21 : decode cX3_readNumber 21 = .ok (.istore 8, 2) := by decide +kernel
theorem dX3_readNumber_23 : decode cX3_readNumber 23 = .ok (.iload 8, 2) := by decide +kernel
theorem dX3_readNumber_25 : decode cX3_readNumber 25 = .ok (.bipush 48, 2) := by decide +kernel
theorem dX3_readNumber_27 : decode cX3_readNumber 27 = .ok (.if_icmp .lt 10, 3) := by decide +kernel
theorem dX3_readNumber_30 : decode cX3_readNumber 30 = .ok (.iload 8, 2) := by decide +kernel
theorem dX3_readNumber_32 : decode cX3_readNumber 32 = .ok (.bipush 57, 2) := by decide +kernel
theorem dX3_readNumber_34 : decode cX3_readNumber 34 = .ok (.if_icmp .le 6, 3) := by decide +kernel
theorem dX3_readNumber_37 : decode cX3_readNumber 37 = .ok (.bipush (-9), 2) := by decide +kernel
theorem dX3_readNumber_39 : decode cX3_readNumber 39 = .ok (.ireturn, 1) := by decide +kernel
theorem dX3_readNumber_40 : decode cX3_readNumber 40 = .ok (.ldc2_w 85, 3) := by decide +kernel
theorem dX3_readNumber_43 : decode cX3_readNumber 43 = .ok (.lload 5, 2) := by decide +kernel
theorem dX3_readNumber_45 : decode cX3_readNumber 45 = .ok (.lmul, 1) := by decide +kernel
theorem dX3_readNumber_46 : decode cX3_readNumber 46 = .ok (.iload 8, 2) := by decide +kernel
theorem dX3_readNumber_48 : decode cX3_readNumber 48 = .ok (.bipush 48, 2) := by decide +kernel
theorem dX3_readNumber_50 : decode cX3_readNumber 50 = .ok (.isub, 1) := by decide +kernel
theorem dX3_readNumber_51 : decode cX3_readNumber 51 = .ok (.i2l, 1) := by decide +kernel
theorem dX3_readNumber_52 : decode cX3_readNumber 52 = .ok (.ladd, 1) := by decide +kernel
theorem dX3_readNumber_53 : decode cX3_readNumber 53 = .ok (.lstore 5, 2) := by decide +kernel
theorem dX3_readNumber_55 : decode cX3_readNumber 55 = .ok (.lload 5, 2) := by decide +kernel
theorem dX3_readNumber_57 : decode cX3_readNumber 57 = .ok (.iload 7, 2) := by decide +kernel
theorem dX3_readNumber_59 : decode cX3_readNumber 59 = .ok (.invokestatic 87, 3) := by decide +kernel
theorem dX3_readNumber_62 : decode cX3_readNumber 62 = .ok (.lmul, 1) := by decide +kernel
theorem dX3_readNumber_63 : decode cX3_readNumber 63 = .ok (.lstore 9, 2) := by decide +kernel
theorem dX3_readNumber_65 : decode cX3_readNumber 65 = .ok (.lload 9, 2) := by decide +kernel
theorem dX3_readNumber_67 : decode cX3_readNumber 67 = .ok (.iload 7, 2) := by decide +kernel
theorem dX3_readNumber_69 : decode cX3_readNumber 69 = .ok (.invokestatic 87, 3) := by decide +kernel
theorem dX3_readNumber_72 : decode cX3_readNumber 72 = .ok (.ladd, 1) := by decide +kernel
theorem dX3_readNumber_73 : decode cX3_readNumber 73 = .ok (.lconst 1, 1) := by decide +kernel
theorem dX3_readNumber_74 : decode cX3_readNumber 74 = .ok (.lsub, 1) := by decide +kernel
theorem dX3_readNumber_75 : decode cX3_readNumber 75 = .ok (.lstore 11, 2) := by decide +kernel
theorem dX3_readNumber_77 : decode cX3_readNumber 77 = .ok (.lload 9, 2) := by decide +kernel
theorem dX3_readNumber_79 : decode cX3_readNumber 79 = .ok (.iload 4, 2) := by decide +kernel
theorem dX3_readNumber_81 : decode cX3_readNumber 81 = .ok (.i2l, 1) := by decide +kernel
theorem dX3_readNumber_82 : decode cX3_readNumber 82 = .ok (.lcmp, 1) := by decide +kernel
theorem dX3_readNumber_83 : decode cX3_readNumber 83 = .ok (.ifCond .gt 11, 3) := by decide +kernel
theorem dX3_readNumber_86 : decode cX3_readNumber 86 = .ok (.lload 11, 2) := by decide +kernel
theorem dX3_readNumber_88 : decode cX3_readNumber 88 = .ok (.iload_n 3, 1) := by decide +kernel
theorem dX3_readNumber_89 : decode cX3_readNumber 89 = .ok (.i2l, 1) := by decide +kernel
theorem dX3_readNumber_90 : decode cX3_readNumber 90 = .ok (.lcmp, 1) := by decide +kernel
theorem dX3_readNumber_91 : decode cX3_readNumber 91 = .ok (.ifCond .ge 6, 3) := by decide +kernel
theorem dX3_readNumber_94 : decode cX3_readNumber 94 = .ok (.bipush (-9), 2) := by decide +kernel
theorem dX3_readNumber_96 : decode cX3_readNumber 96 = .ok (.ireturn, 1) := by decide +kernel
theorem dX3_readNumber_97 : decode cX3_readNumber 97 = .ok (.aload_n 0, 1) := by decide +kernel
theorem dX3_readNumber_98 : decode cX3_readNumber 98 = .ok (.dup, 1) := by decide +kernel
theorem dX3_readNumber_99 : decode cX3_readNumber 99 = .ok (.getfield 9, 3) := by decide +kernel
theorem dX3_readNumber_102 : decode cX3_readNumber 102 = .ok (.iconst 1, 1) := by decide +kernel
theorem dX3_readNumber_103 : decode cX3_readNumber 103 = .ok (.iadd, 1) := by decide +kernel
theorem dX3_readNumber_104 : decode cX3_readNumber 104 = .ok (.putfield 9, 3) := by decide +kernel
theorem dX3_readNumber_107 : decode cX3_readNumber 107 = .ok (.iinc 7 (-1), 3) := by decide +kernel
theorem dX3_readNumber_110 : decode cX3_readNumber 110 = .ok (.goto (-102), 3) := by decide +kernel
theorem dX3_readNumber_113 : decode cX3_readNumber 113 = .ok (.lload 5, 2) := by decide +kernel
theorem dX3_readNumber_115 : decode cX3_readNumber 115 = .ok (.l2i, 1) := by decide +kernel
theorem dX3_readNumber_116 : decode cX3_readNumber 116 = .ok (.ireturn, 1) := by decide +kernel
theorem dX4_init_0 : decode cX4_init 0 = .ok (.aload_n 0, 1) := by decide +kernel
theorem dX4_init_1 : decode cX4_init 1 = .ok (.invokespecial 3, 3) := by decide +kernel
theorem dX4_init_4 : decode cX4_init 4 = .ok (.aload_n 0, 1) := by decide +kernel
theorem dX4_init_5 : decode cX4_init 5 = .ok (.bipush 40, 2) := by decide +kernel
theorem dX4_init_7 : decode cX4_init 7 = .ok (.newarray .int, 2) := by decide +kernel
theorem dX4_init_9 : decode cX4_init 9 = .ok (.putfield 9, 3) := by decide +kernel
theorem dX4_init_12 : decode cX4_init 12 = .ok (.aload_n 0, 1) := by decide +kernel
theorem dX4_init_13 : decode cX4_init 13 = .ok (.bipush 40, 2) := by decide +kernel
theorem dX4_init_15 : decode cX4_init 15 = .ok (.newarray .int, 2) := by decide +kernel
theorem dX4_init_17 : decode cX4_init 17 = .ok (.putfield 15, 3) := by decide +kernel
theorem dX4_init_20 : decode cX4_init 20 = .ok (.aload_n 0, 1) := by decide +kernel
theorem dX4_init_21 : decode cX4_init 21 = .ok (.bipush 40, 2) := by decide +kernel
theorem dX4_init_23 : decode cX4_init 23 = .ok (.newarray .int, 2) := by decide +kernel
theorem dX4_init_25 : decode cX4_init 25 = .ok (.putfield 18, 3) := by decide +kernel
theorem dX4_init_28 : decode cX4_init 28 = .ok (.aload_n 0, 1) := by decide +kernel
theorem dX4_init_29 : decode cX4_init 29 = .ok (.bipush 40, 2) := by decide +kernel
theorem dX4_init_31 : decode cX4_init 31 = .ok (.newarray .int, 2) := by decide +kernel
theorem dX4_init_33 : decode cX4_init 33 = .ok (.putfield 21, 3) := by decide +kernel
theorem dX4_init_36 : decode cX4_init 36 = .ok (.aload_n 0, 1) := by decide +kernel
theorem dX4_init_37 : decode cX4_init 37 = .ok (.bipush 40, 2) := by decide +kernel
theorem dX4_init_39 : decode cX4_init 39 = .ok (.newarray .int, 2) := by decide +kernel
theorem dX4_init_41 : decode cX4_init 41 = .ok (.putfield 24, 3) := by decide +kernel
theorem dX4_init_44 : decode cX4_init 44 = .ok (.return_, 1) := by decide +kernel
theorem dX4_count_0 : decode cX4_count 0 = .ok (.aload_n 0, 1) := by decide +kernel
theorem dX4_count_1 : decode cX4_count 1 = .ok (.getfield 27, 3) := by decide +kernel
theorem dX4_count_4 : decode cX4_count 4 = .ok (.ireturn, 1) := by decide +kernel
theorem dX4_has_0 : decode cX4_has 0 = .ok (.iload_n 1, 1) := by decide +kernel
theorem dX4_has_1 : decode cX4_has 1 = .ok (.ifCond .lt 21, 3) := by decide +kernel
theorem dX4_has_4 : decode cX4_has 4 = .ok (.iload_n 1, 1) := by decide +kernel
theorem dX4_has_5 : decode cX4_has 5 = .ok (.aload_n 0, 1) := by decide +kernel
theorem dX4_has_6 : decode cX4_has 6 = .ok (.getfield 27, 3) := by decide +kernel
theorem dX4_has_9 : decode cX4_has 9 = .ok (.if_icmp .ge 13, 3) := by decide +kernel
theorem dX4_has_12 : decode cX4_has 12 = .ok (.iload_n 1, 1) := by decide +kernel
theorem dX4_has_13 : decode cX4_has 13 = .ok (.bipush 40, 2) := by decide +kernel
theorem dX4_has_15 : decode cX4_has 15 = .ok (.if_icmp .ge 7, 3) := by decide +kernel
theorem dX4_has_18 : decode cX4_has 18 = .ok (.iconst 1, 1) := by decide +kernel
theorem dX4_has_19 : decode cX4_has 19 = .ok (.goto 4, 3) := by decide +kernel
theorem dX4_has_22 : decode cX4_has 22 = .ok (.iconst 0, 1) := by decide +kernel
theorem dX4_has_23 : decode cX4_has 23 = .ok (.ireturn, 1) := by decide +kernel
theorem dX4_hasRoom_0 : decode cX4_hasRoom 0 = .ok (.aload_n 0, 1) := by decide +kernel
theorem dX4_hasRoom_1 : decode cX4_hasRoom 1 = .ok (.getfield 27, 3) := by decide +kernel
theorem dX4_hasRoom_4 : decode cX4_hasRoom 4 = .ok (.ifCond .lt 16, 3) := by decide +kernel
theorem dX4_hasRoom_7 : decode cX4_hasRoom 7 = .ok (.aload_n 0, 1) := by decide +kernel
theorem dX4_hasRoom_8 : decode cX4_hasRoom 8 = .ok (.getfield 27, 3) := by decide +kernel
theorem dX4_hasRoom_11 : decode cX4_hasRoom 11 = .ok (.bipush 40, 2) := by decide +kernel
theorem dX4_hasRoom_13 : decode cX4_hasRoom 13 = .ok (.if_icmp .ge 7, 3) := by decide +kernel
theorem dX4_hasRoom_16 : decode cX4_hasRoom 16 = .ok (.iconst 1, 1) := by decide +kernel
theorem dX4_hasRoom_17 : decode cX4_hasRoom 17 = .ok (.goto 4, 3) := by decide +kernel
theorem dX4_hasRoom_20 : decode cX4_hasRoom 20 = .ok (.iconst 0, 1) := by decide +kernel
theorem dX4_hasRoom_21 : decode cX4_hasRoom 21 = .ok (.ireturn, 1) := by decide +kernel
theorem dX4_clear_0 : decode cX4_clear 0 = .ok (.aload_n 0, 1) := by decide +kernel
theorem dX4_clear_1 : decode cX4_clear 1 = .ok (.iconst 0, 1) := by decide +kernel
theorem dX4_clear_2 : decode cX4_clear 2 = .ok (.putfield 27, 3) := by decide +kernel
theorem dX4_clear_5 : decode cX4_clear 5 = .ok (.return_, 1) := by decide +kernel
theorem dX4_copyFrom_0 : decode cX4_copyFrom 0 = .ok (.aload_n 1, 1) := by decide +kernel
theorem dX4_copyFrom_1 : decode cX4_copyFrom 1 = .ok (.getfield 9, 3) := by decide +kernel
theorem dX4_copyFrom_4 : decode cX4_copyFrom 4 = .ok (.iconst 0, 1) := by decide +kernel
theorem dX4_copyFrom_5 : decode cX4_copyFrom 5 = .ok (.aload_n 0, 1) := by decide +kernel
theorem dX4_copyFrom_6 : decode cX4_copyFrom 6 = .ok (.getfield 9, 3) := by decide +kernel
theorem dX4_copyFrom_9 : decode cX4_copyFrom 9 = .ok (.iconst 0, 1) := by decide +kernel
theorem dX4_copyFrom_10 : decode cX4_copyFrom 10 = .ok (.bipush 40, 2) := by decide +kernel
theorem dX4_copyFrom_12 : decode cX4_copyFrom 12 = .ok (.invokestatic 31, 3) := by decide +kernel
theorem dX4_copyFrom_15 : decode cX4_copyFrom 15 = .ok (.aload_n 1, 1) := by decide +kernel
theorem dX4_copyFrom_16 : decode cX4_copyFrom 16 = .ok (.getfield 15, 3) := by decide +kernel
theorem dX4_copyFrom_19 : decode cX4_copyFrom 19 = .ok (.iconst 0, 1) := by decide +kernel
theorem dX4_copyFrom_20 : decode cX4_copyFrom 20 = .ok (.aload_n 0, 1) := by decide +kernel
theorem dX4_copyFrom_21 : decode cX4_copyFrom 21 = .ok (.getfield 15, 3) := by decide +kernel
theorem dX4_copyFrom_24 : decode cX4_copyFrom 24 = .ok (.iconst 0, 1) := by decide +kernel
theorem dX4_copyFrom_25 : decode cX4_copyFrom 25 = .ok (.bipush 40, 2) := by decide +kernel
theorem dX4_copyFrom_27 : decode cX4_copyFrom 27 = .ok (.invokestatic 31, 3) := by decide +kernel
theorem dX4_copyFrom_30 : decode cX4_copyFrom 30 = .ok (.aload_n 1, 1) := by decide +kernel
theorem dX4_copyFrom_31 : decode cX4_copyFrom 31 = .ok (.getfield 18, 3) := by decide +kernel
theorem dX4_copyFrom_34 : decode cX4_copyFrom 34 = .ok (.iconst 0, 1) := by decide +kernel
theorem dX4_copyFrom_35 : decode cX4_copyFrom 35 = .ok (.aload_n 0, 1) := by decide +kernel
theorem dX4_copyFrom_36 : decode cX4_copyFrom 36 = .ok (.getfield 18, 3) := by decide +kernel
theorem dX4_copyFrom_39 : decode cX4_copyFrom 39 = .ok (.iconst 0, 1) := by decide +kernel
theorem dX4_copyFrom_40 : decode cX4_copyFrom 40 = .ok (.bipush 40, 2) := by decide +kernel
theorem dX4_copyFrom_42 : decode cX4_copyFrom 42 = .ok (.invokestatic 31, 3) := by decide +kernel
theorem dX4_copyFrom_45 : decode cX4_copyFrom 45 = .ok (.aload_n 1, 1) := by decide +kernel
theorem dX4_copyFrom_46 : decode cX4_copyFrom 46 = .ok (.getfield 21, 3) := by decide +kernel
theorem dX4_copyFrom_49 : decode cX4_copyFrom 49 = .ok (.iconst 0, 1) := by decide +kernel
theorem dX4_copyFrom_50 : decode cX4_copyFrom 50 = .ok (.aload_n 0, 1) := by decide +kernel
theorem dX4_copyFrom_51 : decode cX4_copyFrom 51 = .ok (.getfield 21, 3) := by decide +kernel
theorem dX4_copyFrom_54 : decode cX4_copyFrom 54 = .ok (.iconst 0, 1) := by decide +kernel
theorem dX4_copyFrom_55 : decode cX4_copyFrom 55 = .ok (.bipush 40, 2) := by decide +kernel
theorem dX4_copyFrom_57 : decode cX4_copyFrom 57 = .ok (.invokestatic 31, 3) := by decide +kernel
theorem dX4_copyFrom_60 : decode cX4_copyFrom 60 = .ok (.aload_n 1, 1) := by decide +kernel
theorem dX4_copyFrom_61 : decode cX4_copyFrom 61 = .ok (.getfield 24, 3) := by decide +kernel
theorem dX4_copyFrom_64 : decode cX4_copyFrom 64 = .ok (.iconst 0, 1) := by decide +kernel
theorem dX4_copyFrom_65 : decode cX4_copyFrom 65 = .ok (.aload_n 0, 1) := by decide +kernel
theorem dX4_copyFrom_66 : decode cX4_copyFrom 66 = .ok (.getfield 24, 3) := by decide +kernel
theorem dX4_copyFrom_69 : decode cX4_copyFrom 69 = .ok (.iconst 0, 1) := by decide +kernel
theorem dX4_copyFrom_70 : decode cX4_copyFrom 70 = .ok (.bipush 40, 2) := by decide +kernel
theorem dX4_copyFrom_72 : decode cX4_copyFrom 72 = .ok (.invokestatic 31, 3) := by decide +kernel
theorem dX4_copyFrom_75 : decode cX4_copyFrom 75 = .ok (.aload_n 0, 1) := by decide +kernel
theorem dX4_copyFrom_76 : decode cX4_copyFrom 76 = .ok (.aload_n 1, 1) := by decide +kernel
theorem dX4_copyFrom_77 : decode cX4_copyFrom 77 = .ok (.getfield 27, 3) := by decide +kernel
theorem dX4_copyFrom_80 : decode cX4_copyFrom 80 = .ok (.putfield 27, 3) := by decide +kernel
theorem dX4_copyFrom_83 : decode cX4_copyFrom 83 = .ok (.return_, 1) := by decide +kernel
set_option maxRecDepth 20000 in
theorem ggX4_add_X4_hasRoom : GoodIn wsX4_add wsX4_hasRoom := goodIn_r _ [11, 1, 12, 13, 14, 15, 16, 17] (by decide +kernel) (by decide +kernel)
set_option maxRecDepth 20000 in
theorem gX4_add_X4_hasRoom : GoodIn wsX4_add (wsV RX4 37 RX4 yX4_hasRoom wsX4_hasRoom) := goodIn_app (goodIn_of _ (by decide +kernel)) ggX4_add_X4_hasRoom
theorem dX4_add_0 : decode cX4_add 0 = .ok (.aload_n 0, 1) := by decide +kernel
theorem dX4_add_1 : decode cX4_add 1 = .ok (.invokevirtual 37, 3) := by decide +kernel
theorem dX4_add_4 : decode cX4_add 4 = .ok (.ifCond .ne 6, 3) := by decide +kernel
theorem dX4_add_7 : decode cX4_add 7 = .ok (.bipush (-9), 2) := by decide +kernel
theorem dX4_add_9 : decode cX4_add 9 = .ok (.ireturn, 1) := by decide +kernel
theorem dX4_add_10 : decode cX4_add 10 = .ok (.aload_n 0, 1) := by decide +kernel
theorem dX4_add_11 : decode cX4_add 11 = .ok (.getfield 27, 3) := by decide +kernel
theorem dX4_add_14 : decode cX4_add 14 = .ok (.istore 6, 2) := by decide +kernel
theorem dX4_add_16 : decode cX4_add 16 = .ok (.aload_n 0, 1) := by decide +kernel
theorem dX4_add_17 : decode cX4_add 17 = .ok (.getfield 9, 3) := by decide +kernel
theorem dX4_add_20 : decode cX4_add 20 = .ok (.iload 6, 2) := by decide +kernel
theorem dX4_add_22 : decode cX4_add 22 = .ok (.iload_n 1, 1) := by decide +kernel
theorem dX4_add_23 : decode cX4_add 23 = .ok (.iastore, 1) := by decide +kernel
theorem dX4_add_24 : decode cX4_add 24 = .ok (.aload_n 0, 1) := by decide +kernel
theorem dX4_add_25 : decode cX4_add 25 = .ok (.getfield 15, 3) := by decide +kernel
theorem dX4_add_28 : decode cX4_add 28 = .ok (.iload 6, 2) := by decide +kernel
theorem dX4_add_30 : decode cX4_add 30 = .ok (.iload_n 2, 1) := by decide +kernel
theorem dX4_add_31 : decode cX4_add 31 = .ok (.iastore, 1) := by decide +kernel
theorem dX4_add_32 : decode cX4_add 32 = .ok (.aload_n 0, 1) := by decide +kernel
theorem dX4_add_33 : decode cX4_add 33 = .ok (.getfield 18, 3) := by decide +kernel
theorem dX4_add_36 : decode cX4_add 36 = .ok (.iload 6, 2) := by decide +kernel
theorem dX4_add_38 : decode cX4_add 38 = .ok (.iload_n 3, 1) := by decide +kernel
theorem dX4_add_39 : decode cX4_add 39 = .ok (.iastore, 1) := by decide +kernel
theorem dX4_add_40 : decode cX4_add 40 = .ok (.aload_n 0, 1) := by decide +kernel
theorem dX4_add_41 : decode cX4_add 41 = .ok (.getfield 21, 3) := by decide +kernel
theorem dX4_add_44 : decode cX4_add 44 = .ok (.iload 6, 2) := by decide +kernel
theorem dX4_add_46 : decode cX4_add 46 = .ok (.iload 4, 2) := by decide +kernel
theorem dX4_add_48 : decode cX4_add 48 = .ok (.iastore, 1) := by decide +kernel
theorem dX4_add_49 : decode cX4_add 49 = .ok (.aload_n 0, 1) := by decide +kernel
theorem dX4_add_50 : decode cX4_add 50 = .ok (.getfield 24, 3) := by decide +kernel
theorem dX4_add_53 : decode cX4_add 53 = .ok (.iload 6, 2) := by decide +kernel
theorem dX4_add_55 : decode cX4_add 55 = .ok (.iload 5, 2) := by decide +kernel
theorem dX4_add_57 : decode cX4_add 57 = .ok (.iastore, 1) := by decide +kernel
theorem dX4_add_58 : decode cX4_add 58 = .ok (.aload_n 0, 1) := by decide +kernel
theorem dX4_add_59 : decode cX4_add 59 = .ok (.dup, 1) := by decide +kernel
theorem dX4_add_60 : decode cX4_add 60 = .ok (.getfield 27, 3) := by decide +kernel
theorem dX4_add_63 : decode cX4_add 63 = .ok (.iconst 1, 1) := by decide +kernel
theorem dX4_add_64 : decode cX4_add 64 = .ok (.iadd, 1) := by decide +kernel
theorem dX4_add_65 : decode cX4_add 65 = .ok (.putfield 27, 3) := by decide +kernel
theorem dX4_add_68 : decode cX4_add 68 = .ok (.iload 6, 2) := by decide +kernel
theorem dX4_add_70 : decode cX4_add 70 = .ok (.ireturn, 1) := by decide +kernel
set_option maxRecDepth 20000 in
theorem ggX4_codeOf_X4_has : GoodIn wsX4_codeOf wsX4_has := goodIn_r _ [6, 7, 8, 9, 10, 11, 12, 13] (by decide +kernel) (by decide +kernel)
set_option maxRecDepth 20000 in
theorem gX4_codeOf_X4_has : GoodIn wsX4_codeOf (wsV RX4 41 RX4 yX4_has wsX4_has) := goodIn_app (goodIn_of _ (by decide +kernel)) ggX4_codeOf_X4_has
theorem dX4_codeOf_0 : decode cX4_codeOf 0 = .ok (.aload_n 0, 1) := by decide +kernel
theorem dX4_codeOf_1 : decode cX4_codeOf 1 = .ok (.iload_n 1, 1) := by decide +kernel
theorem dX4_codeOf_2 : decode cX4_codeOf 2 = .ok (.invokevirtual 41, 3) := by decide +kernel
theorem dX4_codeOf_5 : decode cX4_codeOf 5 = .ok (.ifCond .eq 12, 3) := by decide +kernel
theorem dX4_codeOf_8 : decode cX4_codeOf 8 = .ok (.aload_n 0, 1) := by decide +kernel
theorem dX4_codeOf_9 : decode cX4_codeOf 9 = .ok (.getfield 9, 3) := by decide +kernel
theorem dX4_codeOf_12 : decode cX4_codeOf 12 = .ok (.iload_n 1, 1) := by decide +kernel
theorem dX4_codeOf_13 : decode cX4_codeOf 13 = .ok (.iaload, 1) := by decide +kernel
theorem dX4_codeOf_14 : decode cX4_codeOf 14 = .ok (.goto 5, 3) := by decide +kernel
theorem dX4_codeOf_17 : decode cX4_codeOf 17 = .ok (.bipush (-9), 2) := by decide +kernel
theorem dX4_codeOf_19 : decode cX4_codeOf 19 = .ok (.ireturn, 1) := by decide +kernel
set_option maxRecDepth 20000 in
theorem ggX4_houseOf_X4_has : GoodIn wsX4_houseOf wsX4_has := goodIn_r _ [6, 7, 8, 9, 10, 11, 12, 13] (by decide +kernel) (by decide +kernel)
set_option maxRecDepth 20000 in
theorem gX4_houseOf_X4_has : GoodIn wsX4_houseOf (wsV RX4 41 RX4 yX4_has wsX4_has) := goodIn_app (goodIn_of _ (by decide +kernel)) ggX4_houseOf_X4_has
theorem dX4_houseOf_0 : decode cX4_houseOf 0 = .ok (.aload_n 0, 1) := by decide +kernel
theorem dX4_houseOf_1 : decode cX4_houseOf 1 = .ok (.iload_n 1, 1) := by decide +kernel
theorem dX4_houseOf_2 : decode cX4_houseOf 2 = .ok (.invokevirtual 41, 3) := by decide +kernel
theorem dX4_houseOf_5 : decode cX4_houseOf 5 = .ok (.ifCond .eq 12, 3) := by decide +kernel
theorem dX4_houseOf_8 : decode cX4_houseOf 8 = .ok (.aload_n 0, 1) := by decide +kernel
theorem dX4_houseOf_9 : decode cX4_houseOf 9 = .ok (.getfield 15, 3) := by decide +kernel
theorem dX4_houseOf_12 : decode cX4_houseOf 12 = .ok (.iload_n 1, 1) := by decide +kernel
theorem dX4_houseOf_13 : decode cX4_houseOf 13 = .ok (.iaload, 1) := by decide +kernel
theorem dX4_houseOf_14 : decode cX4_houseOf 14 = .ok (.goto 5, 3) := by decide +kernel
theorem dX4_houseOf_17 : decode cX4_houseOf 17 = .ok (.bipush (-9), 2) := by decide +kernel
theorem dX4_houseOf_19 : decode cX4_houseOf 19 = .ok (.ireturn, 1) := by decide +kernel
set_option maxRecDepth 20000 in
theorem ggX4_keyOf_X4_has : GoodIn wsX4_keyOf wsX4_has := goodIn_r _ [6, 7, 8, 9, 10, 11, 12, 13] (by decide +kernel) (by decide +kernel)
set_option maxRecDepth 20000 in
theorem gX4_keyOf_X4_has : GoodIn wsX4_keyOf (wsV RX4 41 RX4 yX4_has wsX4_has) := goodIn_app (goodIn_of _ (by decide +kernel)) ggX4_keyOf_X4_has
theorem dX4_keyOf_0 : decode cX4_keyOf 0 = .ok (.aload_n 0, 1) := by decide +kernel
theorem dX4_keyOf_1 : decode cX4_keyOf 1 = .ok (.iload_n 1, 1) := by decide +kernel
theorem dX4_keyOf_2 : decode cX4_keyOf 2 = .ok (.invokevirtual 41, 3) := by decide +kernel
theorem dX4_keyOf_5 : decode cX4_keyOf 5 = .ok (.ifCond .eq 12, 3) := by decide +kernel
theorem dX4_keyOf_8 : decode cX4_keyOf 8 = .ok (.aload_n 0, 1) := by decide +kernel
theorem dX4_keyOf_9 : decode cX4_keyOf 9 = .ok (.getfield 18, 3) := by decide +kernel
theorem dX4_keyOf_12 : decode cX4_keyOf 12 = .ok (.iload_n 1, 1) := by decide +kernel
theorem dX4_keyOf_13 : decode cX4_keyOf 13 = .ok (.iaload, 1) := by decide +kernel
theorem dX4_keyOf_14 : decode cX4_keyOf 14 = .ok (.goto 5, 3) := by decide +kernel
theorem dX4_keyOf_17 : decode cX4_keyOf 17 = .ok (.bipush (-9), 2) := by decide +kernel
theorem dX4_keyOf_19 : decode cX4_keyOf 19 = .ok (.ireturn, 1) := by decide +kernel
set_option maxRecDepth 20000 in
theorem ggX4_parentOf_X4_has : GoodIn wsX4_parentOf wsX4_has := goodIn_r _ [6, 7, 8, 9, 10, 11, 12, 13] (by decide +kernel) (by decide +kernel)
set_option maxRecDepth 20000 in
theorem gX4_parentOf_X4_has : GoodIn wsX4_parentOf (wsV RX4 41 RX4 yX4_has wsX4_has) := goodIn_app (goodIn_of _ (by decide +kernel)) ggX4_parentOf_X4_has
theorem dX4_parentOf_0 : decode cX4_parentOf 0 = .ok (.aload_n 0, 1) := by decide +kernel
theorem dX4_parentOf_1 : decode cX4_parentOf 1 = .ok (.iload_n 1, 1) := by decide +kernel
theorem dX4_parentOf_2 : decode cX4_parentOf 2 = .ok (.invokevirtual 41, 3) := by decide +kernel
theorem dX4_parentOf_5 : decode cX4_parentOf 5 = .ok (.ifCond .eq 12, 3) := by decide +kernel
theorem dX4_parentOf_8 : decode cX4_parentOf 8 = .ok (.aload_n 0, 1) := by decide +kernel
theorem dX4_parentOf_9 : decode cX4_parentOf 9 = .ok (.getfield 21, 3) := by decide +kernel
theorem dX4_parentOf_12 : decode cX4_parentOf 12 = .ok (.iload_n 1, 1) := by decide +kernel
theorem dX4_parentOf_13 : decode cX4_parentOf 13 = .ok (.iaload, 1) := by decide +kernel
theorem dX4_parentOf_14 : decode cX4_parentOf 14 = .ok (.goto 5, 3) := by decide +kernel
theorem dX4_parentOf_17 : decode cX4_parentOf 17 = .ok (.bipush (-9), 2) := by decide +kernel
theorem dX4_parentOf_19 : decode cX4_parentOf 19 = .ok (.ireturn, 1) := by decide +kernel
set_option maxRecDepth 20000 in
theorem ggX4_wrongBitOf_X4_has : GoodIn wsX4_wrongBitOf wsX4_has := goodIn_r _ [6, 7, 8, 9, 10, 11, 12, 13] (by decide +kernel) (by decide +kernel)
set_option maxRecDepth 20000 in
theorem gX4_wrongBitOf_X4_has : GoodIn wsX4_wrongBitOf (wsV RX4 41 RX4 yX4_has wsX4_has) := goodIn_app (goodIn_of _ (by decide +kernel)) ggX4_wrongBitOf_X4_has
theorem dX4_wrongBitOf_0 : decode cX4_wrongBitOf 0 = .ok (.aload_n 0, 1) := by decide +kernel
theorem dX4_wrongBitOf_1 : decode cX4_wrongBitOf 1 = .ok (.iload_n 1, 1) := by decide +kernel
theorem dX4_wrongBitOf_2 : decode cX4_wrongBitOf 2 = .ok (.invokevirtual 41, 3) := by decide +kernel
theorem dX4_wrongBitOf_5 : decode cX4_wrongBitOf 5 = .ok (.ifCond .eq 12, 3) := by decide +kernel
theorem dX4_wrongBitOf_8 : decode cX4_wrongBitOf 8 = .ok (.aload_n 0, 1) := by decide +kernel
theorem dX4_wrongBitOf_9 : decode cX4_wrongBitOf 9 = .ok (.getfield 24, 3) := by decide +kernel
theorem dX4_wrongBitOf_12 : decode cX4_wrongBitOf 12 = .ok (.iload_n 1, 1) := by decide +kernel
theorem dX4_wrongBitOf_13 : decode cX4_wrongBitOf 13 = .ok (.iaload, 1) := by decide +kernel
theorem dX4_wrongBitOf_14 : decode cX4_wrongBitOf 14 = .ok (.goto 5, 3) := by decide +kernel
theorem dX4_wrongBitOf_17 : decode cX4_wrongBitOf 17 = .ok (.bipush (-9), 2) := by decide +kernel
theorem dX4_wrongBitOf_19 : decode cX4_wrongBitOf 19 = .ok (.ireturn, 1) := by decide +kernel
set_option maxRecDepth 20000 in
theorem ggX4_ancestorOf_X4_parentOf : GoodIn wsX4_ancestorOf wsX4_parentOf := goodIn_r _ [9, 10, 11, 12, 13, 8, 14, 15, 16, 17, 18, 19, 20, 21] (by decide +kernel) (by decide +kernel)
set_option maxRecDepth 20000 in
theorem gX4_ancestorOf_X4_parentOf : GoodIn wsX4_ancestorOf (wsV RX4 51 RX4 yX4_parentOf wsX4_parentOf) := goodIn_app (goodIn_of _ (by decide +kernel)) ggX4_ancestorOf_X4_parentOf
theorem dX4_ancestorOf_0 : decode cX4_ancestorOf 0 = .ok (.iload_n 2, 1) := by decide +kernel
theorem dX4_ancestorOf_1 : decode cX4_ancestorOf 1 = .ok (.bipush 40, 2) := by decide +kernel
theorem dX4_ancestorOf_3 : decode cX4_ancestorOf 3 = .ok (.invokestatic 45, 3) := by decide +kernel
theorem dX4_ancestorOf_6 : decode cX4_ancestorOf 6 = .ok (.istore_n 3, 1) := by decide +kernel
theorem dX4_ancestorOf_7 : decode cX4_ancestorOf 7 = .ok (.iload_n 1, 1) := by decide +kernel
theorem dX4_ancestorOf_8 : decode cX4_ancestorOf 8 = .ok (.istore 4, 2) := by decide +kernel
theorem dX4_ancestorOf_10 : decode cX4_ancestorOf 10 = .ok (.iconst 0, 1) := by decide +kernel
theorem dX4_ancestorOf_11 : decode cX4_ancestorOf 11 = .ok (.istore 5, 2) := by decide +kernel
theorem dX4_ancestorOf_13 : decode cX4_ancestorOf 13 = .ok (.iload 5, 2) := by decide +kernel
theorem dX4_ancestorOf_15 : decode cX4_ancestorOf 15 = .ok (.iload_n 3, 1) := by decide +kernel
theorem dX4_ancestorOf_16 : decode cX4_ancestorOf 16 = .ok (.if_icmp .ge 24, 3) := by decide +kernel
theorem dX4_ancestorOf_19 : decode cX4_ancestorOf 19 = .ok (.iload 4, 2) := by decide +kernel
theorem dX4_ancestorOf_21 : decode cX4_ancestorOf 21 = .ok (.bipush (-9), 2) := by decide +kernel
theorem dX4_ancestorOf_23 : decode cX4_ancestorOf 23 = .ok (.if_icmp .eq 17, 3) := by decide +kernel
theorem dX4_ancestorOf_26 : decode cX4_ancestorOf 26 = .ok (.aload_n 0, 1) := by decide +kernel
theorem dX4_ancestorOf_27 : decode cX4_ancestorOf 27 = .ok (.iload 4, 2) := by decide +kernel
theorem dX4_ancestorOf_29 : decode cX4_ancestorOf 29 = .ok (.invokevirtual 51, 3) := by decide +kernel
theorem dX4_ancestorOf_32 : decode cX4_ancestorOf 32 = .ok (.istore 4, 2) := by decide +kernel
theorem dX4_ancestorOf_34 : decode cX4_ancestorOf 34 = .ok (.iinc 5 1, 3) := by decide +kernel
theorem dX4_ancestorOf_37 : decode cX4_ancestorOf 37 = .ok (.goto (-24), 3) := by decide +kernel
theorem dX4_ancestorOf_40 : decode cX4_ancestorOf 40 = .ok (.iload 4, 2) := by decide +kernel
theorem dX4_ancestorOf_42 : decode cX4_ancestorOf 42 = .ok (.ireturn, 1) := by decide +kernel
set_option maxRecDepth 20000 in
theorem ggX4_generationOf_X4_parentOf : GoodIn wsX4_generationOf wsX4_parentOf := goodIn_r _ [5, 6, 7, 8, 9, 4, 10, 11, 12, 13, 14, 15, 16, 17] (by decide +kernel) (by decide +kernel)
set_option maxRecDepth 20000 in
theorem gX4_generationOf_X4_parentOf : GoodIn wsX4_generationOf (wsV RX4 51 RX4 yX4_parentOf wsX4_parentOf) := goodIn_app (goodIn_of _ (by decide +kernel)) ggX4_generationOf_X4_parentOf
theorem dX4_generationOf_0 : decode cX4_generationOf 0 = .ok (.iconst 0, 1) := by decide +kernel
theorem dX4_generationOf_1 : decode cX4_generationOf 1 = .ok (.istore_n 2, 1) := by decide +kernel
theorem dX4_generationOf_2 : decode cX4_generationOf 2 = .ok (.aload_n 0, 1) := by decide +kernel
theorem dX4_generationOf_3 : decode cX4_generationOf 3 = .ok (.iload_n 1, 1) := by decide +kernel
theorem dX4_generationOf_4 : decode cX4_generationOf 4 = .ok (.invokevirtual 51, 3) := by decide +kernel
theorem dX4_generationOf_7 : decode cX4_generationOf 7 = .ok (.istore_n 3, 1) := by decide +kernel
theorem dX4_generationOf_8 : decode cX4_generationOf 8 = .ok (.iconst 0, 1) := by decide +kernel
theorem dX4_generationOf_9 : decode cX4_generationOf 9 = .ok (.istore 4, 2) := by decide +kernel
theorem dX4_generationOf_11 : decode cX4_generationOf 11 = .ok (.iload 4, 2) := by decide +kernel
theorem dX4_generationOf_13 : decode cX4_generationOf 13 = .ok (.bipush 40, 2) := by decide +kernel
theorem dX4_generationOf_15 : decode cX4_generationOf 15 = .ok (.if_icmp .ge 24, 3) := by decide +kernel
theorem dX4_generationOf_18 : decode cX4_generationOf 18 = .ok (.iload_n 3, 1) := by decide +kernel
theorem dX4_generationOf_19 : decode cX4_generationOf 19 = .ok (.bipush (-9), 2) := by decide +kernel
theorem dX4_generationOf_21 : decode cX4_generationOf 21 = .ok (.if_icmp .eq 18, 3) := by decide +kernel
theorem dX4_generationOf_24 : decode cX4_generationOf 24 = .ok (.iinc 2 1, 3) := by decide +kernel
theorem dX4_generationOf_27 : decode cX4_generationOf 27 = .ok (.aload_n 0, 1) := by decide +kernel
theorem dX4_generationOf_28 : decode cX4_generationOf 28 = .ok (.iload_n 3, 1) := by decide +kernel
theorem dX4_generationOf_29 : decode cX4_generationOf 29 = .ok (.invokevirtual 51, 3) := by decide +kernel
theorem dX4_generationOf_32 : decode cX4_generationOf 32 = .ok (.istore_n 3, 1) := by decide +kernel
theorem dX4_generationOf_33 : decode cX4_generationOf 33 = .ok (.iinc 4 1, 3) := by decide +kernel
theorem dX4_generationOf_36 : decode cX4_generationOf 36 = .ok (.goto (-25), 3) := by decide +kernel
theorem dX4_generationOf_39 : decode cX4_generationOf 39 = .ok (.iload_n 2, 1) := by decide +kernel
theorem dX4_generationOf_40 : decode cX4_generationOf 40 = .ok (.ireturn, 1) := by decide +kernel
set_option maxRecDepth 20000 in
theorem ggX4_rootOf_X4_generationOf : GoodIn wsX4_rootOf wsX4_generationOf := goodIn_r _ [5, 6, 7, 8, 4, 9, 10, 11, 12, 13, 14, 15, 24, 25, 26, 27, 28, 29] (by decide +kernel) (by decide +kernel)
set_option maxRecDepth 20000 in
theorem gX4_rootOf_X4_generationOf : GoodIn wsX4_rootOf (wsV RX4 55 RX4 yX4_generationOf wsX4_generationOf) := goodIn_app (goodIn_of _ (by decide +kernel)) ggX4_rootOf_X4_generationOf
set_option maxRecDepth 20000 in
theorem ggX4_rootOf_X4_ancestorOf : GoodIn wsX4_rootOf wsX4_ancestorOf := goodIn_r _ [19, 20, 21, 22, 23, 6, 7, 8, 4, 9, 10, 11, 12, 13, 14, 15, 24, 25, 26, 27, 28, 29] (by decide +kernel) (by decide +kernel)
set_option maxRecDepth 20000 in
theorem gX4_rootOf_X4_ancestorOf : GoodIn wsX4_rootOf (wsV RX4 58 RX4 yX4_ancestorOf wsX4_ancestorOf) := goodIn_app (goodIn_of _ (by decide +kernel)) ggX4_rootOf_X4_ancestorOf
theorem dX4_rootOf_0 : decode cX4_rootOf 0 = .ok (.aload_n 0, 1) := by decide +kernel
theorem dX4_rootOf_1 : decode cX4_rootOf 1 = .ok (.iload_n 1, 1) := by decide +kernel
theorem dX4_rootOf_2 : decode cX4_rootOf 2 = .ok (.aload_n 0, 1) := by decide +kernel
theorem dX4_rootOf_3 : decode cX4_rootOf 3 = .ok (.iload_n 1, 1) := by decide +kernel
theorem dX4_rootOf_4 : decode cX4_rootOf 4 = .ok (.invokevirtual 55, 3) := by decide +kernel
theorem dX4_rootOf_7 : decode cX4_rootOf 7 = .ok (.invokevirtual 58, 3) := by decide +kernel
theorem dX4_rootOf_10 : decode cX4_rootOf 10 = .ok (.ireturn, 1) := by decide +kernel
set_option maxRecDepth 20000 in
theorem ggX4_wrongBitsInChain_X4_wrongBitOf : GoodIn wsX4_wrongBitsInChain wsX4_wrongBitOf := goodIn_r _ [5, 6, 7, 8, 9, 4, 10, 11, 17, 18, 19, 20, 21, 22] (by decide +kernel) (by decide +kernel)
set_option maxRecDepth 20000 in
theorem gX4_wrongBitsInChain_X4_wrongBitOf : GoodIn wsX4_wrongBitsInChain (wsV RX4 61 RX4 yX4_wrongBitOf wsX4_wrongBitOf) := goodIn_app (goodIn_of _ (by decide +kernel)) ggX4_wrongBitsInChain_X4_wrongBitOf
set_option maxRecDepth 20000 in
theorem ggX4_wrongBitsInChain_X4_parentOf : GoodIn wsX4_wrongBitsInChain wsX4_parentOf := goodIn_r _ [15, 16, 7, 8, 9, 4, 10, 11, 17, 18, 19, 20, 21, 22] (by decide +kernel) (by decide +kernel)
set_option maxRecDepth 20000 in
theorem gX4_wrongBitsInChain_X4_parentOf : GoodIn wsX4_wrongBitsInChain (wsV RX4 51 RX4 yX4_parentOf wsX4_parentOf) := goodIn_app (goodIn_of _ (by decide +kernel)) ggX4_wrongBitsInChain_X4_parentOf
theorem dX4_wrongBitsInChain_0 : decode cX4_wrongBitsInChain 0 = .ok (.iconst 0, 1) := by decide +kernel
theorem dX4_wrongBitsInChain_1 : decode cX4_wrongBitsInChain 1 = .ok (.istore_n 2, 1) := by decide +kernel
theorem dX4_wrongBitsInChain_2 : decode cX4_wrongBitsInChain 2 = .ok (.iload_n 1, 1) := by decide +kernel
theorem dX4_wrongBitsInChain_3 : decode cX4_wrongBitsInChain 3 = .ok (.istore_n 3, 1) := by decide +kernel
theorem dX4_wrongBitsInChain_4 : decode cX4_wrongBitsInChain 4 = .ok (.iconst 0, 1) := by decide +kernel
theorem dX4_wrongBitsInChain_5 : decode cX4_wrongBitsInChain 5 = .ok (.istore 4, 2) := by decide +kernel
theorem dX4_wrongBitsInChain_7 : decode cX4_wrongBitsInChain 7 = .ok (.iload 4, 2) := by decide +kernel
theorem dX4_wrongBitsInChain_9 : decode cX4_wrongBitsInChain 9 = .ok (.bipush 40, 2) := by decide +kernel
theorem dX4_wrongBitsInChain_11 : decode cX4_wrongBitsInChain 11 = .ok (.if_icmp .ge 34, 3) := by decide +kernel
theorem dX4_wrongBitsInChain_14 : decode cX4_wrongBitsInChain 14 = .ok (.iload_n 3, 1) := by decide +kernel
theorem dX4_wrongBitsInChain_15 : decode cX4_wrongBitsInChain 15 = .ok (.bipush (-9), 2) := by decide +kernel
theorem dX4_wrongBitsInChain_17 : decode cX4_wrongBitsInChain 17 = .ok (.if_icmp .eq 28, 3) := by decide +kernel
theorem dX4_wrongBitsInChain_20 : decode cX4_wrongBitsInChain 20 = .ok (.aload_n 0, 1) := by decide +kernel
theorem dX4_wrongBitsInChain_21 : decode cX4_wrongBitsInChain 21 = .ok (.iload_n 3, 1) := by decide +kernel
theorem dX4_wrongBitsInChain_22 : decode cX4_wrongBitsInChain 22 = .ok (.invokevirtual 61, 3) := by decide +kernel
theorem dX4_wrongBitsInChain_25 : decode cX4_wrongBitsInChain 25 = .ok (.bipush (-9), 2) := by decide +kernel
theorem dX4_wrongBitsInChain_27 : decode cX4_wrongBitsInChain 27 = .ok (.if_icmp .eq 6, 3) := by decide +kernel
theorem dX4_wrongBitsInChain_30 : decode cX4_wrongBitsInChain 30 = .ok (.iinc 2 1, 3) := by decide +kernel
theorem dX4_wrongBitsInChain_33 : decode cX4_wrongBitsInChain 33 = .ok (.aload_n 0, 1) := by decide +kernel
theorem dX4_wrongBitsInChain_34 : decode cX4_wrongBitsInChain 34 = .ok (.iload_n 3, 1) := by decide +kernel
theorem dX4_wrongBitsInChain_35 : decode cX4_wrongBitsInChain 35 = .ok (.invokevirtual 51, 3) := by decide +kernel
theorem dX4_wrongBitsInChain_38 : decode cX4_wrongBitsInChain 38 = .ok (.istore_n 3, 1) := by decide +kernel
theorem dX4_wrongBitsInChain_39 : decode cX4_wrongBitsInChain 39 = .ok (.iinc 4 1, 3) := by decide +kernel
theorem dX4_wrongBitsInChain_42 : decode cX4_wrongBitsInChain 42 = .ok (.goto (-35), 3) := by decide +kernel
theorem dX4_wrongBitsInChain_45 : decode cX4_wrongBitsInChain 45 = .ok (.iload_n 2, 1) := by decide +kernel
theorem dX4_wrongBitsInChain_46 : decode cX4_wrongBitsInChain 46 = .ok (.ireturn, 1) := by decide +kernel
set_option maxRecDepth 20000 in
theorem ggX4_firstWrongInChain_X4_wrongBitOf : GoodIn wsX4_firstWrongInChain wsX4_wrongBitOf := goodIn_r _ [5, 6, 7, 8, 9, 4, 10, 11, 17, 18, 19, 20, 21, 22] (by decide +kernel) (by decide +kernel)
set_option maxRecDepth 20000 in
theorem gX4_firstWrongInChain_X4_wrongBitOf : GoodIn wsX4_firstWrongInChain (wsV RX4 61 RX4 yX4_wrongBitOf wsX4_wrongBitOf) := goodIn_app (goodIn_of _ (by decide +kernel)) ggX4_firstWrongInChain_X4_wrongBitOf
set_option maxRecDepth 20000 in
theorem ggX4_firstWrongInChain_X4_parentOf : GoodIn wsX4_firstWrongInChain wsX4_parentOf := goodIn_r _ [15, 16, 7, 8, 9, 4, 10, 11, 17, 18, 19, 20, 21, 22] (by decide +kernel) (by decide +kernel)
set_option maxRecDepth 20000 in
theorem gX4_firstWrongInChain_X4_parentOf : GoodIn wsX4_firstWrongInChain (wsV RX4 51 RX4 yX4_parentOf wsX4_parentOf) := goodIn_app (goodIn_of _ (by decide +kernel)) ggX4_firstWrongInChain_X4_parentOf
theorem dX4_firstWrongInChain_0 : decode cX4_firstWrongInChain 0 = .ok (.bipush (-9), 2) := by decide +kernel
theorem dX4_firstWrongInChain_2 : decode cX4_firstWrongInChain 2 = .ok (.istore_n 2, 1) := by decide +kernel
theorem dX4_firstWrongInChain_3 : decode cX4_firstWrongInChain 3 = .ok (.iload_n 1, 1) := by decide +kernel
theorem dX4_firstWrongInChain_4 : decode cX4_firstWrongInChain 4 = .ok (.istore_n 3, 1) := by decide +kernel
theorem dX4_firstWrongInChain_5 : decode cX4_firstWrongInChain 5 = .ok (.iconst 0, 1) := by decide +kernel
theorem dX4_firstWrongInChain_6 : decode cX4_firstWrongInChain 6 = .ok (.istore 4, 2) := by decide +kernel
theorem dX4_firstWrongInChain_8 : decode cX4_firstWrongInChain 8 = .ok (.iload 4, 2) := by decide +kernel
theorem dX4_firstWrongInChain_10 : decode cX4_firstWrongInChain 10 = .ok (.bipush 40, 2) := by decide +kernel
theorem dX4_firstWrongInChain_12 : decode cX4_firstWrongInChain 12 = .ok (.if_icmp .ge 33, 3) := by decide +kernel
theorem dX4_firstWrongInChain_15 : decode cX4_firstWrongInChain 15 = .ok (.iload_n 3, 1) := by decide +kernel
theorem dX4_firstWrongInChain_16 : decode cX4_firstWrongInChain 16 = .ok (.bipush (-9), 2) := by decide +kernel
theorem dX4_firstWrongInChain_18 : decode cX4_firstWrongInChain 18 = .ok (.if_icmp .eq 27, 3) := by decide +kernel
theorem dX4_firstWrongInChain_21 : decode cX4_firstWrongInChain 21 = .ok (.aload_n 0, 1) := by decide +kernel
theorem dX4_firstWrongInChain_22 : decode cX4_firstWrongInChain 22 = .ok (.iload_n 3, 1) := by decide +kernel
theorem dX4_firstWrongInChain_23 : decode cX4_firstWrongInChain 23 = .ok (.invokevirtual 61, 3) := by decide +kernel
theorem dX4_firstWrongInChain_26 : decode cX4_firstWrongInChain 26 = .ok (.bipush (-9), 2) := by decide +kernel
theorem dX4_firstWrongInChain_28 : decode cX4_firstWrongInChain 28 = .ok (.if_icmp .eq 5, 3) := by decide +kernel
theorem dX4_firstWrongInChain_31 : decode cX4_firstWrongInChain 31 = .ok (.iload_n 3, 1) := by decide +kernel
theorem dX4_firstWrongInChain_32 : decode cX4_firstWrongInChain 32 = .ok (.istore_n 2, 1) := by decide +kernel
theorem dX4_firstWrongInChain_33 : decode cX4_firstWrongInChain 33 = .ok (.aload_n 0, 1) := by decide +kernel
theorem dX4_firstWrongInChain_34 : decode cX4_firstWrongInChain 34 = .ok (.iload_n 3, 1) := by decide +kernel
theorem dX4_firstWrongInChain_35 : decode cX4_firstWrongInChain 35 = .ok (.invokevirtual 51, 3) := by decide +kernel
theorem dX4_firstWrongInChain_38 : decode cX4_firstWrongInChain 38 = .ok (.istore_n 3, 1) := by decide +kernel
theorem dX4_firstWrongInChain_39 : decode cX4_firstWrongInChain 39 = .ok (.iinc 4 1, 3) := by decide +kernel
theorem dX4_firstWrongInChain_42 : decode cX4_firstWrongInChain 42 = .ok (.goto (-34), 3) := by decide +kernel
theorem dX4_firstWrongInChain_45 : decode cX4_firstWrongInChain 45 = .ok (.iload_n 2, 1) := by decide +kernel
theorem dX4_firstWrongInChain_46 : decode cX4_firstWrongInChain 46 = .ok (.ireturn, 1) := by decide +kernel
set_option maxRecDepth 20000 in
theorem ggX4_isInChain_X4_parentOf : GoodIn wsX4_isInChain wsX4_parentOf := goodIn_r _ [5, 6, 7, 8, 9, 4, 10, 11, 12, 13, 14, 15, 16, 17] (by decide +kernel) (by decide +kernel)
set_option maxRecDepth 20000 in
theorem gX4_isInChain_X4_parentOf : GoodIn wsX4_isInChain (wsV RX4 51 RX4 yX4_parentOf wsX4_parentOf) := goodIn_app (goodIn_of _ (by decide +kernel)) ggX4_isInChain_X4_parentOf
theorem dX4_isInChain_0 : decode cX4_isInChain 0 = .ok (.iload_n 2, 1) := by decide +kernel
theorem dX4_isInChain_1 : decode cX4_isInChain 1 = .ok (.istore_n 3, 1) := by decide +kernel
theorem dX4_isInChain_2 : decode cX4_isInChain 2 = .ok (.iconst 0, 1) := by decide +kernel
theorem dX4_isInChain_3 : decode cX4_isInChain 3 = .ok (.istore 4, 2) := by decide +kernel
theorem dX4_isInChain_5 : decode cX4_isInChain 5 = .ok (.iload 4, 2) := by decide +kernel
theorem dX4_isInChain_7 : decode cX4_isInChain 7 = .ok (.bipush 40, 2) := by decide +kernel
theorem dX4_isInChain_9 : decode cX4_isInChain 9 = .ok (.if_icmp .ge 28, 3) := by decide +kernel
theorem dX4_isInChain_12 : decode cX4_isInChain 12 = .ok (.iload_n 3, 1) := by decide +kernel
theorem dX4_isInChain_13 : decode cX4_isInChain 13 = .ok (.bipush (-9), 2) := by decide +kernel
theorem dX4_isInChain_15 : decode cX4_isInChain 15 = .ok (.if_icmp .eq 22, 3) := by decide +kernel
theorem dX4_isInChain_18 : decode cX4_isInChain 18 = .ok (.iload_n 3, 1) := by decide +kernel
theorem dX4_isInChain_19 : decode cX4_isInChain 19 = .ok (.iload_n 1, 1) := by decide +kernel
theorem dX4_isInChain_20 : decode cX4_isInChain 20 = .ok (.if_icmp .ne 5, 3) := by decide +kernel
theorem dX4_isInChain_23 : decode cX4_isInChain 23 = .ok (.iconst 1, 1) := by decide +kernel
theorem dX4_isInChain_24 : decode cX4_isInChain 24 = .ok (.ireturn, 1) := by decide +kernel
theorem dX4_isInChain_25 : decode cX4_isInChain 25 = .ok (.aload_n 0, 1) := by decide +kernel
theorem dX4_isInChain_26 : decode cX4_isInChain 26 = .ok (.iload_n 3, 1) := by decide +kernel
theorem dX4_isInChain_27 : decode cX4_isInChain 27 = .ok (.invokevirtual 51, 3) := by decide +kernel
theorem dX4_isInChain_30 : decode cX4_isInChain 30 = .ok (.istore_n 3, 1) := by decide +kernel
theorem dX4_isInChain_31 : decode cX4_isInChain 31 = .ok (.iinc 4 1, 3) := by decide +kernel
theorem dX4_isInChain_34 : decode cX4_isInChain 34 = .ok (.goto (-29), 3) := by decide +kernel
theorem dX4_isInChain_37 : decode cX4_isInChain 37 = .ok (.iconst 0, 1) := by decide +kernel
theorem dX4_isInChain_38 : decode cX4_isInChain 38 = .ok (.ireturn, 1) := by decide +kernel
set_option maxRecDepth 20000 in
theorem ggX4_meetingOf_X4_isInChain : GoodIn wsX4_meetingOf wsX4_isInChain := goodIn_r _ [5, 6, 7, 8, 4, 9, 10, 11, 12, 13, 14, 15, 16, 17, 18, 19, 20, 21] (by decide +kernel) (by decide +kernel)
set_option maxRecDepth 20000 in
theorem gX4_meetingOf_X4_isInChain : GoodIn wsX4_meetingOf (wsV RX4 64 RX4 yX4_isInChain wsX4_isInChain) := goodIn_app (goodIn_of _ (by decide +kernel)) ggX4_meetingOf_X4_isInChain
set_option maxRecDepth 20000 in
theorem ggX4_meetingOf_X4_parentOf : GoodIn wsX4_meetingOf wsX4_parentOf := goodIn_r _ [9, 10, 11, 12, 13, 4, 14, 15, 16, 17, 18, 19, 20, 21] (by decide +kernel) (by decide +kernel)
set_option maxRecDepth 20000 in
theorem gX4_meetingOf_X4_parentOf : GoodIn wsX4_meetingOf (wsV RX4 51 RX4 yX4_parentOf wsX4_parentOf) := goodIn_app (goodIn_of _ (by decide +kernel)) ggX4_meetingOf_X4_parentOf
theorem dX4_meetingOf_0 : decode cX4_meetingOf 0 = .ok (.iload_n 1, 1) := by decide +kernel
theorem dX4_meetingOf_1 : decode cX4_meetingOf 1 = .ok (.istore_n 3, 1) := by decide +kernel
theorem dX4_meetingOf_2 : decode cX4_meetingOf 2 = .ok (.iconst 0, 1) := by decide +kernel
theorem dX4_meetingOf_3 : decode cX4_meetingOf 3 = .ok (.istore 4, 2) := by decide +kernel
theorem dX4_meetingOf_5 : decode cX4_meetingOf 5 = .ok (.iload 4, 2) := by decide +kernel
theorem dX4_meetingOf_7 : decode cX4_meetingOf 7 = .ok (.bipush 40, 2) := by decide +kernel
theorem dX4_meetingOf_9 : decode cX4_meetingOf 9 = .ok (.if_icmp .ge 32, 3) := by decide +kernel
theorem dX4_meetingOf_12 : decode cX4_meetingOf 12 = .ok (.iload_n 3, 1) := by decide +kernel
theorem dX4_meetingOf_13 : decode cX4_meetingOf 13 = .ok (.bipush (-9), 2) := by decide +kernel
theorem dX4_meetingOf_15 : decode cX4_meetingOf 15 = .ok (.if_icmp .eq 26, 3) := by decide +kernel
theorem dX4_meetingOf_18 : decode cX4_meetingOf 18 = .ok (.aload_n 0, 1) := by decide +kernel
theorem dX4_meetingOf_19 : decode cX4_meetingOf 19 = .ok (.iload_n 3, 1) := by decide +kernel
theorem dX4_meetingOf_20 : decode cX4_meetingOf 20 = .ok (.iload_n 2, 1) := by decide +kernel
theorem dX4_meetingOf_21 : decode cX4_meetingOf 21 = .ok (.invokevirtual 64, 3) := by decide +kernel
theorem dX4_meetingOf_24 : decode cX4_meetingOf 24 = .ok (.ifCond .eq 5, 3) := by decide +kernel
theorem dX4_meetingOf_27 : decode cX4_meetingOf 27 = .ok (.iload_n 3, 1) := by decide +kernel
theorem dX4_meetingOf_28 : decode cX4_meetingOf 28 = .ok (.ireturn, 1) := by decide +kernel
theorem dX4_meetingOf_29 : decode cX4_meetingOf 29 = .ok (.aload_n 0, 1) := by decide +kernel
theorem dX4_meetingOf_30 : decode cX4_meetingOf 30 = .ok (.iload_n 3, 1) := by decide +kernel
theorem dX4_meetingOf_31 : decode cX4_meetingOf 31 = .ok (.invokevirtual 51, 3) := by decide +kernel
theorem dX4_meetingOf_34 : decode cX4_meetingOf 34 = .ok (.istore_n 3, 1) := by decide +kernel
theorem dX4_meetingOf_35 : decode cX4_meetingOf 35 = .ok (.iinc 4 1, 3) := by decide +kernel
theorem dX4_meetingOf_38 : decode cX4_meetingOf 38 = .ok (.goto (-33), 3) := by decide +kernel
theorem dX4_meetingOf_41 : decode cX4_meetingOf 41 = .ok (.bipush (-9), 2) := by decide +kernel
theorem dX4_meetingOf_43 : decode cX4_meetingOf 43 = .ok (.ireturn, 1) := by decide +kernel
set_option maxRecDepth 20000 in
theorem ggX4_childrenOf_X4_parentOf : GoodIn wsX4_childrenOf wsX4_parentOf := goodIn_r _ [6, 7, 8, 9, 10, 5, 11, 1, 12, 13, 14, 15, 16, 17] (by decide +kernel) (by decide +kernel)
set_option maxRecDepth 20000 in
theorem gX4_childrenOf_X4_parentOf : GoodIn wsX4_childrenOf (wsV RX4 51 RX4 yX4_parentOf wsX4_parentOf) := goodIn_app (goodIn_of _ (by decide +kernel)) ggX4_childrenOf_X4_parentOf
theorem dX4_childrenOf_0 : decode cX4_childrenOf 0 = .ok (.iconst 0, 1) := by decide +kernel
theorem dX4_childrenOf_1 : decode cX4_childrenOf 1 = .ok (.istore_n 2, 1) := by decide +kernel
theorem dX4_childrenOf_2 : decode cX4_childrenOf 2 = .ok (.iconst 0, 1) := by decide +kernel
theorem dX4_childrenOf_3 : decode cX4_childrenOf 3 = .ok (.istore_n 3, 1) := by decide +kernel
theorem dX4_childrenOf_4 : decode cX4_childrenOf 4 = .ok (.iload_n 3, 1) := by decide +kernel
theorem dX4_childrenOf_5 : decode cX4_childrenOf 5 = .ok (.aload_n 0, 1) := by decide +kernel
theorem dX4_childrenOf_6 : decode cX4_childrenOf 6 = .ok (.getfield 27, 3) := by decide +kernel
theorem dX4_childrenOf_9 : decode cX4_childrenOf 9 = .ok (.if_icmp .ge 21, 3) := by decide +kernel
theorem dX4_childrenOf_12 : decode cX4_childrenOf 12 = .ok (.aload_n 0, 1) := by decide +kernel
theorem dX4_childrenOf_13 : decode cX4_childrenOf 13 = .ok (.iload_n 3, 1) := by decide +kernel
theorem dX4_childrenOf_14 : decode cX4_childrenOf 14 = .ok (.invokevirtual 51, 3) := by decide +kernel
theorem dX4_childrenOf_17 : decode cX4_childrenOf 17 = .ok (.iload_n 1, 1) := by decide +kernel
theorem dX4_childrenOf_18 : decode cX4_childrenOf 18 = .ok (.if_icmp .ne 6, 3) := by decide +kernel
theorem dX4_childrenOf_21 : decode cX4_childrenOf 21 = .ok (.iinc 2 1, 3) := by decide +kernel
theorem dX4_childrenOf_24 : decode cX4_childrenOf 24 = .ok (.iinc 3 1, 3) := by decide +kernel
theorem dX4_childrenOf_27 : decode cX4_childrenOf 27 = .ok (.goto (-23), 3) := by decide +kernel
theorem dX4_childrenOf_30 : decode cX4_childrenOf 30 = .ok (.iload_n 2, 1) := by decide +kernel
theorem dX4_childrenOf_31 : decode cX4_childrenOf 31 = .ok (.ireturn, 1) := by decide +kernel
set_option maxRecDepth 20000 in
theorem ggX4_taught_X4_childrenOf : GoodIn wsX4_taught wsX4_childrenOf := goodIn_r _ [6, 1, 7, 8, 9, 5, 10, 11, 12, 13, 14, 15, 16, 17, 18, 19, 20, 21] (by decide +kernel) (by decide +kernel)
set_option maxRecDepth 20000 in
theorem gX4_taught_X4_childrenOf : GoodIn wsX4_taught (wsV RX4 68 RX4 yX4_childrenOf wsX4_childrenOf) := goodIn_app (goodIn_of _ (by decide +kernel)) ggX4_taught_X4_childrenOf
theorem dX4_taught_0 : decode cX4_taught 0 = .ok (.aload_n 0, 1) := by decide +kernel
theorem dX4_taught_1 : decode cX4_taught 1 = .ok (.getfield 27, 3) := by decide +kernel
theorem dX4_taught_4 : decode cX4_taught 4 = .ok (.aload_n 0, 1) := by decide +kernel
theorem dX4_taught_5 : decode cX4_taught 5 = .ok (.bipush (-9), 2) := by decide +kernel
theorem dX4_taught_7 : decode cX4_taught 7 = .ok (.invokevirtual 68, 3) := by decide +kernel
theorem dX4_taught_10 : decode cX4_taught 10 = .ok (.isub, 1) := by decide +kernel
theorem dX4_taught_11 : decode cX4_taught 11 = .ok (.ireturn, 1) := by decide +kernel
set_option maxRecDepth 20000 in
theorem ggX4_wrong_X4_wrongBitOf : GoodIn wsX4_wrong wsX4_wrongBitOf := goodIn_r _ [6, 7, 8, 9, 10, 5, 11, 1, 12, 13, 14, 15, 16, 17] (by decide +kernel) (by decide +kernel)
set_option maxRecDepth 20000 in
theorem gX4_wrong_X4_wrongBitOf : GoodIn wsX4_wrong (wsV RX4 61 RX4 yX4_wrongBitOf wsX4_wrongBitOf) := goodIn_app (goodIn_of _ (by decide +kernel)) ggX4_wrong_X4_wrongBitOf
theorem dX4_wrong_0 : decode cX4_wrong 0 = .ok (.iconst 0, 1) := by decide +kernel
theorem dX4_wrong_1 : decode cX4_wrong 1 = .ok (.istore_n 1, 1) := by decide +kernel
theorem dX4_wrong_2 : decode cX4_wrong 2 = .ok (.iconst 0, 1) := by decide +kernel
theorem dX4_wrong_3 : decode cX4_wrong 3 = .ok (.istore_n 2, 1) := by decide +kernel
theorem dX4_wrong_4 : decode cX4_wrong 4 = .ok (.iload_n 2, 1) := by decide +kernel
theorem dX4_wrong_5 : decode cX4_wrong 5 = .ok (.aload_n 0, 1) := by decide +kernel
theorem dX4_wrong_6 : decode cX4_wrong 6 = .ok (.getfield 27, 3) := by decide +kernel
theorem dX4_wrong_9 : decode cX4_wrong 9 = .ok (.if_icmp .ge 22, 3) := by decide +kernel
theorem dX4_wrong_12 : decode cX4_wrong 12 = .ok (.aload_n 0, 1) := by decide +kernel
theorem dX4_wrong_13 : decode cX4_wrong 13 = .ok (.iload_n 2, 1) := by decide +kernel
theorem dX4_wrong_14 : decode cX4_wrong 14 = .ok (.invokevirtual 61, 3) := by decide +kernel
theorem dX4_wrong_17 : decode cX4_wrong 17 = .ok (.bipush (-9), 2) := by decide +kernel
theorem dX4_wrong_19 : decode cX4_wrong 19 = .ok (.if_icmp .eq 6, 3) := by decide +kernel
theorem dX4_wrong_22 : decode cX4_wrong 22 = .ok (.iinc 1 1, 3) := by decide +kernel
theorem dX4_wrong_25 : decode cX4_wrong 25 = .ok (.iinc 2 1, 3) := by decide +kernel
theorem dX4_wrong_28 : decode cX4_wrong 28 = .ok (.goto (-24), 3) := by decide +kernel
theorem dX4_wrong_31 : decode cX4_wrong 31 = .ok (.iload_n 1, 1) := by decide +kernel
theorem dX4_wrong_32 : decode cX4_wrong 32 = .ok (.ireturn, 1) := by decide +kernel
set_option maxRecDepth 20000 in
theorem ggX4_greatestGeneration_X4_generationOf : GoodIn wsX4_greatestGeneration wsX4_generationOf := goodIn_r _ [10, 11, 12, 13, 9, 14, 15, 16, 17, 18, 19, 1, 20, 21, 22, 23, 24, 25] (by decide +kernel) (by decide +kernel)
set_option maxRecDepth 20000 in
theorem gX4_greatestGeneration_X4_generationOf : GoodIn wsX4_greatestGeneration (wsV RX4 55 RX4 yX4_generationOf wsX4_generationOf) := goodIn_app (goodIn_of _ (by decide +kernel)) ggX4_greatestGeneration_X4_generationOf
theorem dX4_greatestGeneration_0 : decode cX4_greatestGeneration 0 = .ok (.bipush (-9), 2) := by decide +kernel
theorem dX4_greatestGeneration_2 : decode cX4_greatestGeneration 2 = .ok (.istore_n 1, 1) := by decide +kernel
theorem dX4_greatestGeneration_3 : decode cX4_greatestGeneration 3 = .ok (.iconst 0, 1) := by decide +kernel
theorem dX4_greatestGeneration_4 : decode cX4_greatestGeneration 4 = .ok (.istore_n 2, 1) := by decide +kernel
theorem dX4_greatestGeneration_5 : decode cX4_greatestGeneration 5 = .ok (.iload_n 2, 1) := by decide +kernel
theorem dX4_greatestGeneration_6 : decode cX4_greatestGeneration 6 = .ok (.aload_n 0, 1) := by decide +kernel
theorem dX4_greatestGeneration_7 : decode cX4_greatestGeneration 7 = .ok (.getfield 27, 3) := by decide +kernel
theorem dX4_greatestGeneration_10 : decode cX4_greatestGeneration 10 = .ok (.if_icmp .ge 19, 3) := by decide +kernel
theorem dX4_greatestGeneration_13 : decode cX4_greatestGeneration 13 = .ok (.iload_n 1, 1) := by decide +kernel
theorem dX4_greatestGeneration_14 : decode cX4_greatestGeneration 14 = .ok (.aload_n 0, 1) := by decide +kernel
theorem dX4_greatestGeneration_15 : decode cX4_greatestGeneration 15 = .ok (.iload_n 2, 1) := by decide +kernel
theorem dX4_greatestGeneration_16 : decode cX4_greatestGeneration 16 = .ok (.invokevirtual 55, 3) := by decide +kernel
theorem dX4_greatestGeneration_19 : decode cX4_greatestGeneration 19 = .ok (.invokestatic 71, 3) := by decide +kernel
theorem dX4_greatestGeneration_22 : decode cX4_greatestGeneration 22 = .ok (.istore_n 1, 1) := by decide +kernel
theorem dX4_greatestGeneration_23 : decode cX4_greatestGeneration 23 = .ok (.iinc 2 1, 3) := by decide +kernel
theorem dX4_greatestGeneration_26 : decode cX4_greatestGeneration 26 = .ok (.goto (-21), 3) := by decide +kernel
theorem dX4_greatestGeneration_29 : decode cX4_greatestGeneration 29 = .ok (.iload_n 1, 1) := by decide +kernel
theorem dX4_greatestGeneration_30 : decode cX4_greatestGeneration 30 = .ok (.ireturn, 1) := by decide +kernel
set_option maxRecDepth 20000 in
theorem ggX6_init_X7_init : GoodIn wsX6_init wsX7_init := goodIn_r _ [10, 11, 2, 3, 12, 13, 14, 15, 16, 17, 18, 19, 20, 21, 22, 23, 24, 25, 26, 27, 28, 29, 30, 31, 32, 33, 34, 35, 36, 37, 38, 7, 39, 40, 41, 42, 43, 44, 45, 46, 47, 48, 49, 50, 51, 52, 53, 54, 55, 56, 57, 58, 68, 69, 70, 71, 72, 73, 61, 62, 63, 64, 65, 66, 67, 74, 75, 76, 77, 78] (by decide +kernel) (by decide +kernel)
set_option maxRecDepth 20000 in
theorem gX6_init_X7_init : GoodIn wsX6_init (wsX7_init) := ggX6_init_X7_init
theorem dX6_init_0 : decode cX6_init 0 = .ok (.aload_n 0, 1) := by decide +kernel
theorem dX6_init_1 : decode cX6_init 1 = .ok (.invokespecial 3, 3) := by decide +kernel
theorem dX6_init_4 : decode cX6_init 4 = .ok (.aload_n 0, 1) := by decide +kernel
theorem dX6_init_5 : decode cX6_init 5 = .ok (.iconst 2, 1) := by decide +kernel
theorem dX6_init_6 : decode cX6_init 6 = .ok (.anewarray 9, 3) := by decide +kernel
theorem dX6_init_9 : decode cX6_init 9 = .ok (.putfield 11, 3) := by decide +kernel
theorem dX6_init_12 : decode cX6_init 12 = .ok (.iconst 0, 1) := by decide +kernel
theorem dX6_init_13 : decode cX6_init 13 = .ok (.istore_n 1, 1) := by decide +kernel
theorem dX6_init_14 : decode cX6_init 14 = .ok (.iload_n 1, 1) := by decide +kernel
theorem dX6_init_15 : decode cX6_init 15 = .ok (.iconst 2, 1) := by decide +kernel
theorem dX6_init_16 : decode cX6_init 16 = .ok (.if_icmp .ge 22, 3) := by decide +kernel
theorem dX6_init_19 : decode cX6_init 19 = .ok (.aload_n 0, 1) := by decide +kernel
theorem dX6_init_20 : decode cX6_init 20 = .ok (.getfield 11, 3) := by decide +kernel
theorem dX6_init_23 : decode cX6_init 23 = .ok (.iload_n 1, 1) := by decide +kernel
theorem dX6_init_24 : decode cX6_init 24 = .ok (.new 9, 3) := by decide +kernel
theorem dX6_init_27 : decode cX6_init 27 = .ok (.dup, 1) := by decide +kernel
theorem dX6_init_28 : decode cX6_init 28 = .ok (.invokespecial 17, 3) := by decide +kernel
theorem dX6_init_31 : decode cX6_init 31 = .ok (.aastore, 1) := by decide +kernel
theorem dX6_init_32 : decode cX6_init 32 = .ok (.iinc 1 1, 3) := by decide +kernel
theorem dX6_init_35 : decode cX6_init 35 = .ok (.goto (-21), 3) := by decide +kernel
theorem dX6_init_38 : decode cX6_init 38 = .ok (.return_, 1) := by decide +kernel
theorem dX6_has_0 : decode cX6_has 0 = .ok (.iload_n 1, 1) := by decide +kernel
theorem dX6_has_1 : decode cX6_has 1 = .ok (.ifCond .lt 12, 3) := by decide +kernel
theorem dX6_has_4 : decode cX6_has 4 = .ok (.iload_n 1, 1) := by decide +kernel
theorem dX6_has_5 : decode cX6_has 5 = .ok (.iconst 2, 1) := by decide +kernel
theorem dX6_has_6 : decode cX6_has 6 = .ok (.if_icmp .ge 7, 3) := by decide +kernel
theorem dX6_has_9 : decode cX6_has 9 = .ok (.iconst 1, 1) := by decide +kernel
theorem dX6_has_10 : decode cX6_has 10 = .ok (.goto 4, 3) := by decide +kernel
theorem dX6_has_13 : decode cX6_has 13 = .ok (.iconst 0, 1) := by decide +kernel
theorem dX6_has_14 : decode cX6_has 14 = .ok (.ireturn, 1) := by decide +kernel
set_option maxRecDepth 20000 in
theorem ggX6_isFilled_X6_has : GoodIn wsX6_isFilled wsX6_has := goodIn_r _ [6] (by decide +kernel) (by decide +kernel)
set_option maxRecDepth 20000 in
theorem gX6_isFilled_X6_has : GoodIn wsX6_isFilled (wsV RX6 18 RX6 yX6_has wsX6_has) := goodIn_app (goodIn_of _ (by decide +kernel)) ggX6_isFilled_X6_has
theorem dX6_isFilled_0 : decode cX6_isFilled 0 = .ok (.aload_n 0, 1) := by decide +kernel
theorem dX6_isFilled_1 : decode cX6_isFilled 1 = .ok (.iload_n 1, 1) := by decide +kernel
theorem dX6_isFilled_2 : decode cX6_isFilled 2 = .ok (.invokevirtual 18, 3) := by decide +kernel
theorem dX6_isFilled_5 : decode cX6_isFilled 5 = .ok (.ifCond .eq 19, 3) := by decide +kernel
theorem dX6_isFilled_8 : decode cX6_isFilled 8 = .ok (.aload_n 0, 1) := by decide +kernel
theorem dX6_isFilled_9 : decode cX6_isFilled 9 = .ok (.getfield 22, 3) := by decide +kernel
theorem dX6_isFilled_12 : decode cX6_isFilled 12 = .ok (.iload_n 1, 1) := by decide +kernel
theorem dX6_isFilled_13 : decode cX6_isFilled 13 = .ok (.ishr, 1) := by decide +kernel
theorem dX6_isFilled_14 : decode cX6_isFilled 14 = .ok (.iconst 1, 1) := by decide +kernel
theorem dX6_isFilled_15 : decode cX6_isFilled 15 = .ok (.iand, 1) := by decide +kernel
theorem dX6_isFilled_16 : decode cX6_isFilled 16 = .ok (.iconst 1, 1) := by decide +kernel
theorem dX6_isFilled_17 : decode cX6_isFilled 17 = .ok (.if_icmp .ne 7, 3) := by decide +kernel
theorem dX6_isFilled_20 : decode cX6_isFilled 20 = .ok (.iconst 1, 1) := by decide +kernel
theorem dX6_isFilled_21 : decode cX6_isFilled 21 = .ok (.goto 4, 3) := by decide +kernel
theorem dX6_isFilled_24 : decode cX6_isFilled 24 = .ok (.iconst 0, 1) := by decide +kernel
theorem dX6_isFilled_25 : decode cX6_isFilled 25 = .ok (.ireturn, 1) := by decide +kernel
set_option maxRecDepth 20000 in
theorem ggX6_stateAt_X6_has : GoodIn wsX6_stateAt wsX6_has := goodIn_r _ [6] (by decide +kernel) (by decide +kernel)
set_option maxRecDepth 20000 in
theorem gX6_stateAt_X6_has : GoodIn wsX6_stateAt (wsV RX6 18 RX6 yX6_has wsX6_has) := goodIn_app (goodIn_of _ (by decide +kernel)) ggX6_stateAt_X6_has
theorem dX6_stateAt_0 : decode cX6_stateAt 0 = .ok (.aload_n 0, 1) := by decide +kernel
theorem dX6_stateAt_1 : decode cX6_stateAt 1 = .ok (.iload_n 1, 1) := by decide +kernel
theorem dX6_stateAt_2 : decode cX6_stateAt 2 = .ok (.invokevirtual 18, 3) := by decide +kernel
theorem dX6_stateAt_5 : decode cX6_stateAt 5 = .ok (.ifCond .eq 12, 3) := by decide +kernel
theorem dX6_stateAt_8 : decode cX6_stateAt 8 = .ok (.aload_n 0, 1) := by decide +kernel
theorem dX6_stateAt_9 : decode cX6_stateAt 9 = .ok (.getfield 11, 3) := by decide +kernel
theorem dX6_stateAt_12 : decode cX6_stateAt 12 = .ok (.iload_n 1, 1) := by decide +kernel
theorem dX6_stateAt_13 : decode cX6_stateAt 13 = .ok (.aaload, 1) := by decide +kernel
theorem dX6_stateAt_14 : decode cX6_stateAt 14 = .ok (.goto 4, 3) := by decide +kernel
theorem dX6_stateAt_17 : decode cX6_stateAt 17 = .ok (.aconst_null, 1) := by decide +kernel
theorem dX6_stateAt_18 : decode cX6_stateAt 18 = .ok (.areturn, 1) := by decide +kernel
set_option maxRecDepth 20000 in
theorem ggX6_keep_X6_stateAt : GoodIn wsX6_keep wsX6_stateAt := goodIn_r _ [6, 7, 8, 9, 10, 5, 11, 51, 52] (by decide +kernel) (by decide +kernel)
set_option maxRecDepth 20000 in
theorem gX6_keep_X6_stateAt : GoodIn wsX6_keep (wsV RX6 26 RX6 yX6_stateAt wsX6_stateAt) := goodIn_app (goodIn_of _ (by decide +kernel)) ggX6_keep_X6_stateAt
set_option maxRecDepth 20000 in
theorem ggX6_keep_X7_copyFrom : GoodIn wsX6_keep wsX7_copyFrom := goodIn_r _ [16, 17, 18, 19, 20, 21, 22, 23, 24, 25, 26, 27, 28, 29, 30, 31, 32, 33, 34, 35, 36, 37, 38, 39, 40, 41, 42, 43, 44, 45, 46, 47, 48, 49, 50, 53, 54, 55, 56, 57, 58, 59, 60, 61, 62, 63, 64, 65, 66, 67, 68, 69, 70] (by decide +kernel) (by decide +kernel)
set_option maxRecDepth 20000 in
theorem gX6_keep_X7_copyFrom : GoodIn wsX6_keep (wsV RX6 30 RX7 yX7_copyFrom wsX7_copyFrom) := goodIn_app (goodIn_of _ (by decide +kernel)) ggX6_keep_X7_copyFrom
theorem dX6_keep_0 : decode cX6_keep 0 = .ok (.aload_n 0, 1) := by decide +kernel
theorem dX6_keep_1 : decode cX6_keep 1 = .ok (.iload_n 1, 1) := by decide +kernel
theorem dX6_keep_2 : decode cX6_keep 2 = .ok (.invokevirtual 26, 3) := by decide +kernel
theorem dX6_keep_5 : decode cX6_keep 5 = .ok (.astore_n 3, 1) := by decide +kernel
theorem dX6_keep_6 : decode cX6_keep 6 = .ok (.aload_n 3, 1) := by decide +kernel
theorem dX6_keep_7 : decode cX6_keep 7 = .ok (.ifnull 20, 3) := by decide +kernel
theorem dX6_keep_10 : decode cX6_keep 10 = .ok (.aload_n 3, 1) := by decide +kernel
theorem dX6_keep_11 : decode cX6_keep 11 = .ok (.aload_n 2, 1) := by decide +kernel
theorem dX6_keep_12 : decode cX6_keep 12 = .ok (.invokevirtual 30, 3) := by decide +kernel
theorem dX6_keep_15 : decode cX6_keep 15 = .ok (.aload_n 0, 1) := by decide +kernel
theorem dX6_keep_16 : decode cX6_keep 16 = .ok (.dup, 1) := by decide +kernel
theorem dX6_keep_17 : decode cX6_keep 17 = .ok (.getfield 22, 3) := by decide +kernel
theorem dX6_keep_20 : decode cX6_keep 20 = .ok (.iconst 1, 1) := by decide +kernel
theorem dX6_keep_21 : decode cX6_keep 21 = .ok (.iload_n 1, 1) := by decide +kernel
theorem dX6_keep_22 : decode cX6_keep 22 = .ok (.ishl, 1) := by decide +kernel
theorem dX6_keep_23 : decode cX6_keep 23 = .ok (.ior, 1) := by decide +kernel
theorem dX6_keep_24 : decode cX6_keep 24 = .ok (.putfield 22, 3) := by decide +kernel
theorem dX6_keep_27 : decode cX6_keep 27 = .ok (.return_, 1) := by decide +kernel
set_option maxRecDepth 20000 in
theorem ggX6_giveBack_X6_stateAt : GoodIn wsX6_giveBack wsX6_stateAt := goodIn_r _ [5, 6, 7, 8, 9, 4, 10, 50, 51] (by decide +kernel) (by decide +kernel)
set_option maxRecDepth 20000 in
theorem gX6_giveBack_X6_stateAt : GoodIn wsX6_giveBack (wsV RX6 26 RX6 yX6_stateAt wsX6_stateAt) := goodIn_app (goodIn_of _ (by decide +kernel)) ggX6_giveBack_X6_stateAt
set_option maxRecDepth 20000 in
theorem ggX6_giveBack_X7_copyFrom : GoodIn wsX6_giveBack wsX7_copyFrom := goodIn_r _ [15, 16, 17, 18, 19, 20, 21, 22, 23, 24, 25, 26, 27, 28, 29, 30, 31, 32, 33, 34, 35, 36, 37, 38, 39, 40, 41, 42, 43, 44, 45, 46, 47, 48, 49, 52, 53, 54, 55, 56, 57, 58, 59, 60, 61, 62, 63, 64, 65, 66, 67, 68, 69] (by decide +kernel) (by decide +kernel)
set_option maxRecDepth 20000 in
theorem gX6_giveBack_X7_copyFrom : GoodIn wsX6_giveBack (wsV RX6 30 RX7 yX7_copyFrom wsX7_copyFrom) := goodIn_app (goodIn_of _ (by decide +kernel)) ggX6_giveBack_X7_copyFrom
theorem dX6_giveBack_0 : decode cX6_giveBack 0 = .ok (.aload_n 0, 1) := by decide +kernel
theorem dX6_giveBack_1 : decode cX6_giveBack 1 = .ok (.iload_n 1, 1) := by decide +kernel
theorem dX6_giveBack_2 : decode cX6_giveBack 2 = .ok (.invokevirtual 26, 3) := by decide +kernel
theorem dX6_giveBack_5 : decode cX6_giveBack 5 = .ok (.astore_n 3, 1) := by decide +kernel
theorem dX6_giveBack_6 : decode cX6_giveBack 6 = .ok (.aload_n 3, 1) := by decide +kernel
theorem dX6_giveBack_7 : decode cX6_giveBack 7 = .ok (.ifnull 8, 3) := by decide +kernel
theorem dX6_giveBack_10 : decode cX6_giveBack 10 = .ok (.aload_n 2, 1) := by decide +kernel
theorem dX6_giveBack_11 : decode cX6_giveBack 11 = .ok (.aload_n 3, 1) := by decide +kernel
theorem dX6_giveBack_12 : decode cX6_giveBack 12 = .ok (.invokevirtual 30, 3) := by decide +kernel
theorem dX6_giveBack_15 : decode cX6_giveBack 15 = .ok (.return_, 1) := by decide +kernel
set_option maxRecDepth 20000 in
theorem ggX7_init_X4_init : GoodIn wsX7_init wsX4_init := goodIn_r _ [15, 16, 2, 3, 12, 17, 18, 19, 20, 21, 52, 53, 54, 55, 56, 57] (by decide +kernel) (by decide +kernel)
set_option maxRecDepth 20000 in
theorem gX7_init_X4_init_n11 : GoodIn wsX7_init (wsX4_init) := ggX7_init_X4_init
set_option maxRecDepth 20000 in
theorem ggX7_init_X0_init : GoodIn wsX7_init wsX0_init := goodIn_r _ [23, 24, 2, 3, 12, 25, 26, 27, 65, 66, 67, 68, 69] (by decide +kernel) (by decide +kernel)
set_option maxRecDepth 20000 in
theorem gX7_init_X0_init_n20 : GoodIn wsX7_init (wsX0_init) := ggX7_init_X0_init
set_option maxRecDepth 20000 in
theorem ggX7_init_X7_clear : GoodIn wsX7_init wsX7_clear := goodIn_r _ [32, 7, 11, 13, 33, 34, 35, 36, 37, 38, 39, 6, 40, 41, 42, 43, 44, 10, 45, 46, 47, 48, 49, 50, 51, 58, 59, 60, 61, 62, 63, 64, 52, 53, 54, 55, 56, 57, 65, 66, 67, 68, 69] (by decide +kernel) (by decide +kernel)
set_option maxRecDepth 20000 in
theorem gX7_init_X7_clear : GoodIn wsX7_init (wsV RX7 29 RX7 yX7_clear wsX7_clear) := goodIn_app (goodIn_of _ (by decide +kernel)) ggX7_init_X7_clear
theorem dX7_init_0 : decode cX7_init 0 = .ok (.aload_n 0, 1) := by decide +kernel
theorem dX7_init_1 : decode cX7_init 1 = .ok (.invokespecial 3, 3) := by decide +kernel
theorem dX7_init_4 : decode cX7_init 4 = .ok (.aload_n 0, 1) := by decide +kernel
theorem dX7_init_5 : decode cX7_init 5 = .ok (.new 9, 3) := by decide +kernel
theorem dX7_init_8 : decode cX7_init 8 = .ok (.dup, 1) := by decide +kernel
theorem dX7_init_9 : decode cX7_init 9 = .ok (.invokespecial 11, 3) := by decide +kernel
theorem dX7_init_12 : decode cX7_init 12 = .ok (.putfield 12, 3) := by decide +kernel
theorem dX7_init_15 : decode cX7_init 15 = .ok (.aload_n 0, 1) := by decide +kernel
theorem dX7_init_16 : decode cX7_init 16 = .ok (.new 18, 3) := by decide +kernel
theorem dX7_init_19 : decode cX7_init 19 = .ok (.dup, 1) := by decide +kernel
theorem dX7_init_20 : decode cX7_init 20 = .ok (.invokespecial 20, 3) := by decide +kernel
theorem dX7_init_23 : decode cX7_init 23 = .ok (.putfield 21, 3) := by decide +kernel
theorem dX7_init_26 : decode cX7_init 26 = .ok (.aload_n 0, 1) := by decide +kernel
theorem dX7_init_27 : decode cX7_init 27 = .ok (.bipush 54, 2) := by decide +kernel
theorem dX7_init_29 : decode cX7_init 29 = .ok (.newarray .int, 2) := by decide +kernel
theorem dX7_init_31 : decode cX7_init 31 = .ok (.putfield 25, 3) := by decide +kernel
theorem dX7_init_34 : decode cX7_init 34 = .ok (.aload_n 0, 1) := by decide +kernel
theorem dX7_init_35 : decode cX7_init 35 = .ok (.iconst 4, 1) := by decide +kernel
theorem dX7_init_36 : decode cX7_init 36 = .ok (.invokevirtual 29, 3) := by decide +kernel
theorem dX7_init_39 : decode cX7_init 39 = .ok (.return_, 1) := by decide +kernel
set_option maxRecDepth 20000 in
theorem ggX7_clear_X4_clear : GoodIn wsX7_clear wsX4_clear := goodIn_r _ [12, 13, 32, 33, 34, 35, 36, 37] (by decide +kernel) (by decide +kernel)
set_option maxRecDepth 20000 in
theorem gX7_clear_X4_clear : GoodIn wsX7_clear (wsV RX7 33 RX4 yX4_clear wsX4_clear) := goodIn_app (goodIn_of _ (by decide +kernel)) ggX7_clear_X4_clear
set_option maxRecDepth 20000 in
theorem ggX7_clear_X0_clear : GoodIn wsX7_clear wsX0_clear := goodIn_r _ [18, 19, 20, 38, 39, 40, 41, 42] (by decide +kernel) (by decide +kernel)
set_option maxRecDepth 20000 in
theorem gX7_clear_X0_clear : GoodIn wsX7_clear (wsV RX7 35 RX0 yX0_clear wsX0_clear) := goodIn_app (goodIn_of _ (by decide +kernel)) ggX7_clear_X0_clear
set_option maxRecDepth 20000 in
theorem ggX7_clear_J7_fill_53178 : GoodIn wsX7_clear wsJ7_fill_53178 := goodIn_r _ [24] (by decide +kernel) (by decide +kernel)
set_option maxRecDepth 20000 in
theorem gX7_clear_J7_fill_53178 : GoodIn wsX7_clear (va_wsS RX7 36 yJ7_fill_53178 wsJ7_fill_53178) := goodIn_app (goodIn_of _ (by decide +kernel)) ggX7_clear_J7_fill_53178
