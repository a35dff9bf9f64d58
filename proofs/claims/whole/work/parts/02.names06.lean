theorem dX10_isRecord_3 : decode cX10_isRecord 3 = .ok (.aload_n 0, 1) := by decide +kernel
theorem dX10_isRecord_4 : decode cX10_isRecord 4 = .ok (.getfield 7, 3) := by decide +kernel
theorem dX10_isRecord_7 : decode cX10_isRecord 7 = .ok (.iconst 2, 1) := by decide +kernel
theorem dX10_isRecord_8 : decode cX10_isRecord 8 = .ok (.iaload, 1) := by decide +kernel
theorem dX10_isRecord_9 : decode cX10_isRecord 9 = .ok (.iconst 1, 1) := by decide +kernel
theorem dX10_isRecord_10 : decode cX10_isRecord 10 = .ok (.isub, 1) := by decide +kernel
theorem dX10_isRecord_11 : decode cX10_isRecord 11 = .ok (.i2l, 1) := by decide +kernel
theorem dX10_isRecord_12 : decode cX10_isRecord 12 = .ok (.invokestatic 47, 3) := by decide +kernel
theorem dX10_isRecord_15 : decode cX10_isRecord 15 = .ok (.ireturn, 1) := by decide +kernel
set_option maxRecDepth 20000 in
theorem ggX10_isDevice_X10_in : GoodIn wsX10_isDevice wsX10_in := goodIn_r _ [5] (by decide +kernel) (by decide +kernel)
set_option maxRecDepth 20000 in
theorem gX10_isDevice_X10_in : GoodIn wsX10_isDevice (va_wsS RX10 47 yX10_in wsX10_in) := goodIn_app (goodIn_of _ (by decide +kernel)) ggX10_isDevice_X10_in
theorem dX10_isDevice_0 : decode cX10_isDevice 0 = .ok (.iload_n 1, 1) := by decide +kernel
theorem dX10_isDevice_1 : decode cX10_isDevice 1 = .ok (.i2l, 1) := by decide +kernel
theorem dX10_isDevice_2 : decode cX10_isDevice 2 = .ok (.lconst 0, 1) := by decide +kernel
theorem dX10_isDevice_3 : decode cX10_isDevice 3 = .ok (.aload_n 0, 1) := by decide +kernel
theorem dX10_isDevice_4 : decode cX10_isDevice 4 = .ok (.getfield 7, 3) := by decide +kernel
theorem dX10_isDevice_7 : decode cX10_isDevice 7 = .ok (.iconst 1, 1) := by decide +kernel
theorem dX10_isDevice_8 : decode cX10_isDevice 8 = .ok (.iaload, 1) := by decide +kernel
theorem dX10_isDevice_9 : decode cX10_isDevice 9 = .ok (.iconst 1, 1) := by decide +kernel
theorem dX10_isDevice_10 : decode cX10_isDevice 10 = .ok (.isub, 1) := by decide +kernel
theorem dX10_isDevice_11 : decode cX10_isDevice 11 = .ok (.i2l, 1) := by decide +kernel
theorem dX10_isDevice_12 : decode cX10_isDevice 12 = .ok (.invokestatic 47, 3) := by decide +kernel
theorem dX10_isDevice_15 : decode cX10_isDevice 15 = .ok (.ireturn, 1) := by decide +kernel
theorem dX10_keyAt_0 : decode cX10_keyAt 0 = .ok (.iconst 5, 1) := by decide +kernel
theorem dX10_keyAt_1 : decode cX10_keyAt 1 = .ok (.bipush 6, 2) := by decide +kernel
theorem dX10_keyAt_3 : decode cX10_keyAt 3 = .ok (.iload_n 0, 1) := by decide +kernel
theorem dX10_keyAt_4 : decode cX10_keyAt 4 = .ok (.imul, 1) := by decide +kernel
theorem dX10_keyAt_5 : decode cX10_keyAt 5 = .ok (.iadd, 1) := by decide +kernel
theorem dX10_keyAt_6 : decode cX10_keyAt 6 = .ok (.iload_n 1, 1) := by decide +kernel
theorem dX10_keyAt_7 : decode cX10_keyAt 7 = .ok (.iadd, 1) := by decide +kernel
theorem dX10_keyAt_8 : decode cX10_keyAt 8 = .ok (.ireturn, 1) := by decide +kernel
theorem dX10_of_0 : decode cX10_of 0 = .ok (.aload_n 0, 1) := by decide +kernel
theorem dX10_of_1 : decode cX10_of 1 = .ok (.getfield 7, 3) := by decide +kernel
theorem dX10_of_4 : decode cX10_of 4 = .ok (.bipush 59, 2) := by decide +kernel
theorem dX10_of_6 : decode cX10_of 6 = .ok (.iconst 5, 1) := by decide +kernel
theorem dX10_of_7 : decode cX10_of 7 = .ok (.iload_n 1, 1) := by decide +kernel
theorem dX10_of_8 : decode cX10_of 8 = .ok (.imul, 1) := by decide +kernel
theorem dX10_of_9 : decode cX10_of 9 = .ok (.iadd, 1) := by decide +kernel
theorem dX10_of_10 : decode cX10_of 10 = .ok (.iload_n 2, 1) := by decide +kernel
theorem dX10_of_11 : decode cX10_of 11 = .ok (.iadd, 1) := by decide +kernel
theorem dX10_of_12 : decode cX10_of 12 = .ok (.iaload, 1) := by decide +kernel
theorem dX10_of_13 : decode cX10_of 13 = .ok (.ireturn, 1) := by decide +kernel
theorem dX10_ofDevice_0 : decode cX10_ofDevice 0 = .ok (.aload_n 0, 1) := by decide +kernel
theorem dX10_ofDevice_1 : decode cX10_ofDevice 1 = .ok (.getfield 7, 3) := by decide +kernel
theorem dX10_ofDevice_4 : decode cX10_ofDevice 4 = .ok (.sipush 259, 3) := by decide +kernel
theorem dX10_ofDevice_7 : decode cX10_ofDevice 7 = .ok (.iconst 4, 1) := by decide +kernel
theorem dX10_ofDevice_8 : decode cX10_ofDevice 8 = .ok (.iload_n 1, 1) := by decide +kernel
theorem dX10_ofDevice_9 : decode cX10_ofDevice 9 = .ok (.imul, 1) := by decide +kernel
theorem dX10_ofDevice_10 : decode cX10_ofDevice 10 = .ok (.iadd, 1) := by decide +kernel
theorem dX10_ofDevice_11 : decode cX10_ofDevice 11 = .ok (.iload_n 2, 1) := by decide +kernel
theorem dX10_ofDevice_12 : decode cX10_ofDevice 12 = .ok (.iadd, 1) := by decide +kernel
theorem dX10_ofDevice_13 : decode cX10_ofDevice 13 = .ok (.iaload, 1) := by decide +kernel
theorem dX10_ofDevice_14 : decode cX10_ofDevice 14 = .ok (.ireturn, 1) := by decide +kernel
theorem dX10_apart_0 : decode cX10_apart 0 = .ok (.iconst 0, 1) := by decide +kernel
theorem dX10_apart_1 : decode cX10_apart 1 = .ok (.istore_n 2, 1) := by decide +kernel
theorem dX10_apart_2 : decode cX10_apart 2 = .ok (.iload_n 0, 1) := by decide +kernel
theorem dX10_apart_3 : decode cX10_apart 3 = .ok (.iload_n 1, 1) := by decide +kernel
theorem dX10_apart_4 : decode cX10_apart 4 = .ok (.ixor, 1) := by decide +kernel
theorem dX10_apart_5 : decode cX10_apart 5 = .ok (.istore_n 3, 1) := by decide +kernel
theorem dX10_apart_6 : decode cX10_apart 6 = .ok (.iload_n 3, 1) := by decide +kernel
theorem dX10_apart_7 : decode cX10_apart 7 = .ok (.ifCond .eq 15, 3) := by decide +kernel
theorem dX10_apart_10 : decode cX10_apart 10 = .ok (.iinc 2 1, 3) := by decide +kernel
theorem dX10_apart_13 : decode cX10_apart 13 = .ok (.iload_n 3, 1) := by decide +kernel
theorem dX10_apart_14 : decode cX10_apart 14 = .ok (.iload_n 3, 1) := by decide +kernel
theorem dX10_apart_15 : decode cX10_apart 15 = .ok (.iconst 1, 1) := by decide +kernel
theorem dX10_apart_16 : decode cX10_apart 16 = .ok (.isub, 1) := by decide +kernel
theorem dX10_apart_17 : decode cX10_apart 17 = .ok (.iand, 1) := by decide +kernel
theorem dX10_apart_18 : decode cX10_apart 18 = .ok (.istore_n 3, 1) := by decide +kernel
theorem dX10_apart_19 : decode cX10_apart 19 = .ok (.goto (-13), 3) := by decide +kernel
theorem dX10_apart_22 : decode cX10_apart 22 = .ok (.iload_n 2, 1) := by decide +kernel
theorem dX10_apart_23 : decode cX10_apart 23 = .ok (.ireturn, 1) := by decide +kernel
set_option maxRecDepth 20000 in
theorem ggX10_rootOf_X10_of : GoodIn wsX10_rootOf wsX10_of := goodIn_r _ [5, 6, 7, 8, 9, 10, 11, 12, 13, 14, 15, 16, 17, 18, 19, 20, 21, 22, 23, 24, 25] (by decide +kernel) (by decide +kernel)
set_option maxRecDepth 20000 in
theorem gX10_rootOf_X10_of : GoodIn wsX10_rootOf (wsV RX10 65 RX10 yX10_of wsX10_of) := goodIn_app (goodIn_of _ (by decide +kernel)) ggX10_rootOf_X10_of
theorem dX10_rootOf_0 : decode cX10_rootOf 0 = .ok (.iload_n 1, 1) := by decide +kernel
theorem dX10_rootOf_1 : decode cX10_rootOf 1 = .ok (.istore_n 2, 1) := by decide +kernel
theorem dX10_rootOf_2 : decode cX10_rootOf 2 = .ok (.aload_n 0, 1) := by decide +kernel
theorem dX10_rootOf_3 : decode cX10_rootOf 3 = .ok (.iload_n 2, 1) := by decide +kernel
theorem dX10_rootOf_4 : decode cX10_rootOf 4 = .ok (.iconst 3, 1) := by decide +kernel
theorem dX10_rootOf_5 : decode cX10_rootOf 5 = .ok (.invokevirtual 65, 3) := by decide +kernel
theorem dX10_rootOf_8 : decode cX10_rootOf 8 = .ok (.ifCond .lt 13, 3) := by decide +kernel
theorem dX10_rootOf_11 : decode cX10_rootOf 11 = .ok (.aload_n 0, 1) := by decide +kernel
theorem dX10_rootOf_12 : decode cX10_rootOf 12 = .ok (.iload_n 2, 1) := by decide +kernel
theorem dX10_rootOf_13 : decode cX10_rootOf 13 = .ok (.iconst 3, 1) := by decide +kernel
theorem dX10_rootOf_14 : decode cX10_rootOf 14 = .ok (.invokevirtual 65, 3) := by decide +kernel
theorem dX10_rootOf_17 : decode cX10_rootOf 17 = .ok (.istore_n 2, 1) := by decide +kernel
theorem dX10_rootOf_18 : decode cX10_rootOf 18 = .ok (.goto (-16), 3) := by decide +kernel
theorem dX10_rootOf_21 : decode cX10_rootOf 21 = .ok (.iload_n 2, 1) := by decide +kernel
theorem dX10_rootOf_22 : decode cX10_rootOf 22 = .ok (.ireturn, 1) := by decide +kernel
set_option maxRecDepth 20000 in
theorem ggX10_generation_X10_of : GoodIn wsX10_generation wsX10_of := goodIn_r _ [5, 6, 7, 8, 9, 10, 11, 12, 13, 14, 15, 16, 17, 18, 19, 20, 21, 22, 23, 24, 25] (by decide +kernel) (by decide +kernel)
set_option maxRecDepth 20000 in
theorem gX10_generation_X10_of : GoodIn wsX10_generation (wsV RX10 65 RX10 yX10_of wsX10_of) := goodIn_app (goodIn_of _ (by decide +kernel)) ggX10_generation_X10_of
theorem dX10_generation_0 : decode cX10_generation 0 = .ok (.iconst 0, 1) := by decide +kernel
theorem dX10_generation_1 : decode cX10_generation 1 = .ok (.istore_n 2, 1) := by decide +kernel
theorem dX10_generation_2 : decode cX10_generation 2 = .ok (.iload_n 1, 1) := by decide +kernel
theorem dX10_generation_3 : decode cX10_generation 3 = .ok (.istore_n 3, 1) := by decide +kernel
theorem dX10_generation_4 : decode cX10_generation 4 = .ok (.aload_n 0, 1) := by decide +kernel
theorem dX10_generation_5 : decode cX10_generation 5 = .ok (.iload_n 3, 1) := by decide +kernel
theorem dX10_generation_6 : decode cX10_generation 6 = .ok (.iconst 3, 1) := by decide +kernel
theorem dX10_generation_7 : decode cX10_generation 7 = .ok (.invokevirtual 65, 3) := by decide +kernel
theorem dX10_generation_10 : decode cX10_generation 10 = .ok (.ifCond .lt 16, 3) := by decide +kernel
theorem dX10_generation_13 : decode cX10_generation 13 = .ok (.iinc 2 1, 3) := by decide +kernel
theorem dX10_generation_16 : decode cX10_generation 16 = .ok (.aload_n 0, 1) := by decide +kernel
theorem dX10_generation_17 : decode cX10_generation 17 = .ok (.iload_n 3, 1) := by decide +kernel
theorem dX10_generation_18 : decode cX10_generation 18 = .ok (.iconst 3, 1) := by decide +kernel
theorem dX10_generation_19 : decode cX10_generation 19 = .ok (.invokevirtual 65, 3) := by decide +kernel
theorem dX10_generation_22 : decode cX10_generation 22 = .ok (.istore_n 3, 1) := by decide +kernel
theorem dX10_generation_23 : decode cX10_generation 23 = .ok (.goto (-19), 3) := by decide +kernel
theorem dX10_generation_26 : decode cX10_generation 26 = .ok (.iload_n 2, 1) := by decide +kernel
theorem dX10_generation_27 : decode cX10_generation 27 = .ok (.ireturn, 1) := by decide +kernel
set_option maxRecDepth 20000 in
theorem ggX10_wrongBits_X10_of : GoodIn wsX10_wrongBits wsX10_of := goodIn_r _ [5, 6, 7, 8, 9, 10, 11, 12, 13, 14, 15, 16, 17, 18, 19, 20, 21, 22, 23, 24, 25] (by decide +kernel) (by decide +kernel)
set_option maxRecDepth 20000 in
theorem gX10_wrongBits_X10_of : GoodIn wsX10_wrongBits (wsV RX10 65 RX10 yX10_of wsX10_of) := goodIn_app (goodIn_of _ (by decide +kernel)) ggX10_wrongBits_X10_of
theorem dX10_wrongBits_0 : decode cX10_wrongBits 0 = .ok (.iconst 0, 1) := by decide +kernel
theorem dX10_wrongBits_1 : decode cX10_wrongBits 1 = .ok (.istore_n 2, 1) := by decide +kernel
theorem dX10_wrongBits_2 : decode cX10_wrongBits 2 = .ok (.iload_n 1, 1) := by decide +kernel
theorem dX10_wrongBits_3 : decode cX10_wrongBits 3 = .ok (.istore_n 3, 1) := by decide +kernel
theorem dX10_wrongBits_4 : decode cX10_wrongBits 4 = .ok (.iload_n 3, 1) := by decide +kernel
theorem dX10_wrongBits_5 : decode cX10_wrongBits 5 = .ok (.ifCond .lt 30, 3) := by decide +kernel
theorem dX10_wrongBits_8 : decode cX10_wrongBits 8 = .ok (.iload_n 2, 1) := by decide +kernel
theorem dX10_wrongBits_9 : decode cX10_wrongBits 9 = .ok (.aload_n 0, 1) := by decide +kernel
theorem dX10_wrongBits_10 : decode cX10_wrongBits 10 = .ok (.iload_n 3, 1) := by decide +kernel
theorem dX10_wrongBits_11 : decode cX10_wrongBits 11 = .ok (.iconst 4, 1) := by decide +kernel
theorem dX10_wrongBits_12 : decode cX10_wrongBits 12 = .ok (.invokevirtual 65, 3) := by decide +kernel
theorem dX10_wrongBits_15 : decode cX10_wrongBits 15 = .ok (.ifCond .lt 7, 3) := by decide +kernel
theorem dX10_wrongBits_18 : decode cX10_wrongBits 18 = .ok (.iconst 1, 1) := by decide +kernel
theorem dX10_wrongBits_19 : decode cX10_wrongBits 19 = .ok (.goto 4, 3) := by decide +kernel
theorem dX10_wrongBits_22 : decode cX10_wrongBits 22 = .ok (.iconst 0, 1) := by decide +kernel
theorem dX10_wrongBits_23 : decode cX10_wrongBits 23 = .ok (.iadd, 1) := by decide +kernel
theorem dX10_wrongBits_24 : decode cX10_wrongBits 24 = .ok (.istore_n 2, 1) := by decide +kernel
theorem dX10_wrongBits_25 : decode cX10_wrongBits 25 = .ok (.aload_n 0, 1) := by decide +kernel
theorem dX10_wrongBits_26 : decode cX10_wrongBits 26 = .ok (.iload_n 3, 1) := by decide +kernel
theorem dX10_wrongBits_27 : decode cX10_wrongBits 27 = .ok (.iconst 3, 1) := by decide +kernel
theorem dX10_wrongBits_28 : decode cX10_wrongBits 28 = .ok (.invokevirtual 65, 3) := by decide +kernel
theorem dX10_wrongBits_31 : decode cX10_wrongBits 31 = .ok (.istore_n 3, 1) := by decide +kernel
theorem dX10_wrongBits_32 : decode cX10_wrongBits 32 = .ok (.goto (-28), 3) := by decide +kernel
theorem dX10_wrongBits_35 : decode cX10_wrongBits 35 = .ok (.iload_n 2, 1) := by decide +kernel
theorem dX10_wrongBits_36 : decode cX10_wrongBits 36 = .ok (.ireturn, 1) := by decide +kernel
set_option maxRecDepth 20000 in
theorem ggX10_isInChain_X10_of : GoodIn wsX10_isInChain wsX10_of := goodIn_r _ [5, 6, 7, 8, 9, 10, 11, 12, 13, 14, 15, 16, 17, 18, 19, 20, 21, 22, 23, 24, 25] (by decide +kernel) (by decide +kernel)
set_option maxRecDepth 20000 in
theorem gX10_isInChain_X10_of : GoodIn wsX10_isInChain (wsV RX10 65 RX10 yX10_of wsX10_of) := goodIn_app (goodIn_of _ (by decide +kernel)) ggX10_isInChain_X10_of
theorem dX10_isInChain_0 : decode cX10_isInChain 0 = .ok (.iload_n 2, 1) := by decide +kernel
theorem dX10_isInChain_1 : decode cX10_isInChain 1 = .ok (.istore_n 3, 1) := by decide +kernel
theorem dX10_isInChain_2 : decode cX10_isInChain 2 = .ok (.iload_n 3, 1) := by decide +kernel
theorem dX10_isInChain_3 : decode cX10_isInChain 3 = .ok (.iload_n 1, 1) := by decide +kernel
theorem dX10_isInChain_4 : decode cX10_isInChain 4 = .ok (.if_icmp .le 13, 3) := by decide +kernel
theorem dX10_isInChain_7 : decode cX10_isInChain 7 = .ok (.aload_n 0, 1) := by decide +kernel
theorem dX10_isInChain_8 : decode cX10_isInChain 8 = .ok (.iload_n 3, 1) := by decide +kernel
theorem dX10_isInChain_9 : decode cX10_isInChain 9 = .ok (.iconst 3, 1) := by decide +kernel
theorem dX10_isInChain_10 : decode cX10_isInChain 10 = .ok (.invokevirtual 65, 3) := by decide +kernel
theorem dX10_isInChain_13 : decode cX10_isInChain 13 = .ok (.istore_n 3, 1) := by decide +kernel
theorem dX10_isInChain_14 : decode cX10_isInChain 14 = .ok (.goto (-12), 3) := by decide +kernel
theorem dX10_isInChain_17 : decode cX10_isInChain 17 = .ok (.iload_n 3, 1) := by decide +kernel
theorem dX10_isInChain_18 : decode cX10_isInChain 18 = .ok (.iload_n 1, 1) := by decide +kernel
theorem dX10_isInChain_19 : decode cX10_isInChain 19 = .ok (.if_icmp .ne 7, 3) := by decide +kernel
theorem dX10_isInChain_22 : decode cX10_isInChain 22 = .ok (.iconst 1, 1) := by decide +kernel
theorem dX10_isInChain_23 : decode cX10_isInChain 23 = .ok (.goto 4, 3) := by decide +kernel
theorem dX10_isInChain_26 : decode cX10_isInChain 26 = .ok (.iconst 0, 1) := by decide +kernel
theorem dX10_isInChain_27 : decode cX10_isInChain 27 = .ok (.ireturn, 1) := by decide +kernel
set_option maxRecDepth 20000 in
theorem ggX10_makes_X10_keyAt : GoodIn wsX10_makes wsX10_keyAt := goodIn_r _ [5] (by decide +kernel) (by decide +kernel)
set_option maxRecDepth 20000 in
theorem gX10_makes_X10_keyAt : GoodIn wsX10_makes (va_wsS RX10 69 yX10_keyAt wsX10_keyAt) := goodIn_app (goodIn_of _ (by decide +kernel)) ggX10_makes_X10_keyAt
theorem dX10_makes_0 : decode cX10_makes 0 = .ok (.aload_n 0, 1) := by decide +kernel
theorem dX10_makes_1 : decode cX10_makes 1 = .ok (.getfield 7, 3) := by decide +kernel
theorem dX10_makes_4 : decode cX10_makes 4 = .ok (.iconst 2, 1) := by decide +kernel
theorem dX10_makes_5 : decode cX10_makes 5 = .ok (.iaload, 1) := by decide +kernel
theorem dX10_makes_6 : decode cX10_makes 6 = .ok (.istore 6, 2) := by decide +kernel
theorem dX10_makes_8 : decode cX10_makes 8 = .ok (.bipush 59, 2) := by decide +kernel
theorem dX10_makes_10 : decode cX10_makes 10 = .ok (.iconst 5, 1) := by decide +kernel
theorem dX10_makes_11 : decode cX10_makes 11 = .ok (.iload 6, 2) := by decide +kernel
theorem dX10_makes_13 : decode cX10_makes 13 = .ok (.imul, 1) := by decide +kernel
theorem dX10_makes_14 : decode cX10_makes 14 = .ok (.iadd, 1) := by decide +kernel
theorem dX10_makes_15 : decode cX10_makes 15 = .ok (.istore 7, 2) := by decide +kernel
theorem dX10_makes_17 : decode cX10_makes 17 = .ok (.aload_n 0, 1) := by decide +kernel
theorem dX10_makes_18 : decode cX10_makes 18 = .ok (.getfield 7, 3) := by decide +kernel
theorem dX10_makes_21 : decode cX10_makes 21 = .ok (.iload 7, 2) := by decide +kernel
theorem dX10_makes_23 : decode cX10_makes 23 = .ok (.iload_n 1, 1) := by decide +kernel
theorem dX10_makes_24 : decode cX10_makes 24 = .ok (.iastore, 1) := by decide +kernel
theorem dX10_makes_25 : decode cX10_makes 25 = .ok (.aload_n 0, 1) := by decide +kernel
theorem dX10_makes_26 : decode cX10_makes 26 = .ok (.getfield 7, 3) := by decide +kernel
theorem dX10_makes_29 : decode cX10_makes 29 = .ok (.iload 7, 2) := by decide +kernel
theorem dX10_makes_31 : decode cX10_makes 31 = .ok (.iconst 1, 1) := by decide +kernel
theorem dX10_makes_32 : decode cX10_makes 32 = .ok (.iadd, 1) := by decide +kernel
theorem dX10_makes_33 : decode cX10_makes 33 = .ok (.iload_n 2, 1) := by decide +kernel
theorem dX10_makes_34 : decode cX10_makes 34 = .ok (.iastore, 1) := by decide +kernel
theorem dX10_makes_35 : decode cX10_makes 35 = .ok (.aload_n 0, 1) := by decide +kernel
theorem dX10_makes_36 : decode cX10_makes 36 = .ok (.getfield 7, 3) := by decide +kernel
theorem dX10_makes_39 : decode cX10_makes 39 = .ok (.iload 7, 2) := by decide +kernel
theorem dX10_makes_41 : decode cX10_makes 41 = .ok (.iconst 2, 1) := by decide +kernel
theorem dX10_makes_42 : decode cX10_makes 42 = .ok (.iadd, 1) := by decide +kernel
theorem dX10_makes_43 : decode cX10_makes 43 = .ok (.iload_n 3, 1) := by decide +kernel
theorem dX10_makes_44 : decode cX10_makes 44 = .ok (.iastore, 1) := by decide +kernel
theorem dX10_makes_45 : decode cX10_makes 45 = .ok (.aload_n 0, 1) := by decide +kernel
theorem dX10_makes_46 : decode cX10_makes 46 = .ok (.getfield 7, 3) := by decide +kernel
theorem dX10_makes_49 : decode cX10_makes 49 = .ok (.iload 7, 2) := by decide +kernel
theorem dX10_makes_51 : decode cX10_makes 51 = .ok (.iconst 3, 1) := by decide +kernel
theorem dX10_makes_52 : decode cX10_makes 52 = .ok (.iadd, 1) := by decide +kernel
theorem dX10_makes_53 : decode cX10_makes 53 = .ok (.iload 4, 2) := by decide +kernel
theorem dX10_makes_55 : decode cX10_makes 55 = .ok (.iastore, 1) := by decide +kernel
theorem dX10_makes_56 : decode cX10_makes 56 = .ok (.aload_n 0, 1) := by decide +kernel
theorem dX10_makes_57 : decode cX10_makes 57 = .ok (.getfield 7, 3) := by decide +kernel
theorem dX10_makes_60 : decode cX10_makes 60 = .ok (.iload 7, 2) := by decide +kernel
theorem dX10_makes_62 : decode cX10_makes 62 = .ok (.iconst 4, 1) := by decide +kernel
theorem dX10_makes_63 : decode cX10_makes 63 = .ok (.iadd, 1) := by decide +kernel
theorem dX10_makes_64 : decode cX10_makes 64 = .ok (.iload 5, 2) := by decide +kernel
theorem dX10_makes_66 : decode cX10_makes 66 = .ok (.iastore, 1) := by decide +kernel
theorem dX10_makes_67 : decode cX10_makes 67 = .ok (.aload_n 0, 1) := by decide +kernel
theorem dX10_makes_68 : decode cX10_makes 68 = .ok (.getfield 7, 3) := by decide +kernel
theorem dX10_makes_71 : decode cX10_makes 71 = .ok (.iload_n 2, 1) := by decide +kernel
theorem dX10_makes_72 : decode cX10_makes 72 = .ok (.iload_n 3, 1) := by decide +kernel
theorem dX10_makes_73 : decode cX10_makes 73 = .ok (.invokestatic 69, 3) := by decide +kernel
theorem dX10_makes_76 : decode cX10_makes 76 = .ok (.iload 6, 2) := by decide +kernel
theorem dX10_makes_78 : decode cX10_makes 78 = .ok (.iastore, 1) := by decide +kernel
theorem dX10_makes_79 : decode cX10_makes 79 = .ok (.aload_n 0, 1) := by decide +kernel
theorem dX10_makes_80 : decode cX10_makes 80 = .ok (.getfield 7, 3) := by decide +kernel
theorem dX10_makes_83 : decode cX10_makes 83 = .ok (.iconst 2, 1) := by decide +kernel
theorem dX10_makes_84 : decode cX10_makes 84 = .ok (.dup2, 1) := by decide +kernel
theorem dX10_makes_85 : decode cX10_makes 85 = .ok (.iaload, 1) := by decide +kernel
theorem dX10_makes_86 : decode cX10_makes 86 = .ok (.iconst 1, 1) := by decide +kernel
theorem dX10_makes_87 : decode cX10_makes 87 = .ok (.iadd, 1) := by decide +kernel
theorem dX10_makes_88 : decode cX10_makes 88 = .ok (.iastore, 1) := by decide +kernel
theorem dX10_makes_89 : decode cX10_makes 89 = .ok (.iload 6, 2) := by decide +kernel
theorem dX10_makes_91 : decode cX10_makes 91 = .ok (.ireturn, 1) := by decide +kernel
theorem dX10_wrongBit_0 : decode cX10_wrongBit 0 = .ok (.aload_n 0, 1) := by decide +kernel
theorem dX10_wrongBit_1 : decode cX10_wrongBit 1 = .ok (.aload_n 0, 1) := by decide +kernel
theorem dX10_wrongBit_2 : decode cX10_wrongBit 2 = .ok (.getfield 51, 3) := by decide +kernel
theorem dX10_wrongBit_5 : decode cX10_wrongBit 5 = .ok (.ldc2_w 72, 3) := by decide +kernel
theorem dX10_wrongBit_8 : decode cX10_wrongBit 8 = .ok (.lmul, 1) := by decide +kernel
theorem dX10_wrongBit_9 : decode cX10_wrongBit 9 = .ok (.ldc2_w 74, 3) := by decide +kernel
theorem dX10_wrongBit_12 : decode cX10_wrongBit 12 = .ok (.ladd, 1) := by decide +kernel
theorem dX10_wrongBit_13 : decode cX10_wrongBit 13 = .ok (.putfield 51, 3) := by decide +kernel
theorem dX10_wrongBit_16 : decode cX10_wrongBit 16 = .ok (.aload_n 0, 1) := by decide +kernel
theorem dX10_wrongBit_17 : decode cX10_wrongBit 17 = .ok (.getfield 51, 3) := by decide +kernel
theorem dX10_wrongBit_20 : decode cX10_wrongBit 20 = .ok (.bipush 33, 2) := by decide +kernel
theorem dX10_wrongBit_22 : decode cX10_wrongBit 22 = .ok (.lushr, 1) := by decide +kernel
theorem dX10_wrongBit_23 : decode cX10_wrongBit 23 = .ok (.l2i, 1) := by decide +kernel
theorem dX10_wrongBit_24 : decode cX10_wrongBit 24 = .ok (.istore_n 2, 1) := by decide +kernel
theorem dX10_wrongBit_25 : decode cX10_wrongBit 25 = .ok (.iload_n 2, 1) := by decide +kernel
theorem dX10_wrongBit_26 : decode cX10_wrongBit 26 = .ok (.bipush 10, 2) := by decide +kernel
theorem dX10_wrongBit_28 : decode cX10_wrongBit 28 = .ok (.irem, 1) := by decide +kernel
theorem dX10_wrongBit_29 : decode cX10_wrongBit 29 = .ok (.aload_n 0, 1) := by decide +kernel
theorem dX10_wrongBit_30 : decode cX10_wrongBit 30 = .ok (.getfield 7, 3) := by decide +kernel
theorem dX10_wrongBit_33 : decode cX10_wrongBit 33 = .ok (.iconst 3, 1) := by decide +kernel
theorem dX10_wrongBit_34 : decode cX10_wrongBit 34 = .ok (.iaload, 1) := by decide +kernel
theorem dX10_wrongBit_35 : decode cX10_wrongBit 35 = .ok (.iload_n 1, 1) := by decide +kernel
theorem dX10_wrongBit_36 : decode cX10_wrongBit 36 = .ok (.imul, 1) := by decide +kernel
theorem dX10_wrongBit_37 : decode cX10_wrongBit 37 = .ok (.if_icmp .ge 13, 3) := by decide +kernel
theorem dX10_wrongBit_40 : decode cX10_wrongBit 40 = .ok (.iload_n 2, 1) := by decide +kernel
theorem dX10_wrongBit_41 : decode cX10_wrongBit 41 = .ok (.bipush 16, 2) := by decide +kernel
theorem dX10_wrongBit_43 : decode cX10_wrongBit 43 = .ok (.idiv, 1) := by decide +kernel
theorem dX10_wrongBit_44 : decode cX10_wrongBit 44 = .ok (.bipush 12, 2) := by decide +kernel
theorem dX10_wrongBit_46 : decode cX10_wrongBit 46 = .ok (.irem, 1) := by decide +kernel
theorem dX10_wrongBit_47 : decode cX10_wrongBit 47 = .ok (.goto 4, 3) := by decide +kernel
theorem dX10_wrongBit_50 : decode cX10_wrongBit 50 = .ok (.iconst (-1), 1) := by decide +kernel
theorem dX10_wrongBit_51 : decode cX10_wrongBit 51 = .ok (.ireturn, 1) := by decide +kernel
theorem dX10_changed_0 : decode cX10_changed 0 = .ok (.iload_n 1, 1) := by decide +kernel
theorem dX10_changed_1 : decode cX10_changed 1 = .ok (.ifCond .ge 7, 3) := by decide +kernel
theorem dX10_changed_4 : decode cX10_changed 4 = .ok (.iload_n 0, 1) := by decide +kernel
theorem dX10_changed_5 : decode cX10_changed 5 = .ok (.goto 8, 3) := by decide +kernel
theorem dX10_changed_8 : decode cX10_changed 8 = .ok (.iload_n 0, 1) := by decide +kernel
theorem dX10_changed_9 : decode cX10_changed 9 = .ok (.iconst 1, 1) := by decide +kernel
theorem dX10_changed_10 : decode cX10_changed 10 = .ok (.iload_n 1, 1) := by decide +kernel
theorem dX10_changed_11 : decode cX10_changed 11 = .ok (.ishl, 1) := by decide +kernel
theorem dX10_changed_12 : decode cX10_changed 12 = .ok (.ixor, 1) := by decide +kernel
theorem dX10_changed_13 : decode cX10_changed 13 = .ok (.ireturn, 1) := by decide +kernel
theorem dX10_far_0 : decode cX10_far 0 = .ok (.iload_n 0, 1) := by decide +kernel
theorem dX10_far_1 : decode cX10_far 1 = .ok (.iload_n 1, 1) := by decide +kernel
theorem dX10_far_2 : decode cX10_far 2 = .ok (.if_icmp .ge 9, 3) := by decide +kernel
theorem dX10_far_5 : decode cX10_far 5 = .ok (.iload_n 1, 1) := by decide +kernel
theorem dX10_far_6 : decode cX10_far 6 = .ok (.iload_n 0, 1) := by decide +kernel
theorem dX10_far_7 : decode cX10_far 7 = .ok (.isub, 1) := by decide +kernel
theorem dX10_far_8 : decode cX10_far 8 = .ok (.goto 6, 3) := by decide +kernel
theorem dX10_far_11 : decode cX10_far 11 = .ok (.iload_n 0, 1) := by decide +kernel
theorem dX10_far_12 : decode cX10_far 12 = .ok (.iload_n 1, 1) := by decide +kernel
theorem dX10_far_13 : decode cX10_far 13 = .ok (.isub, 1) := by decide +kernel
theorem dX10_far_14 : decode cX10_far 14 = .ok (.ireturn, 1) := by decide +kernel
set_option maxRecDepth 20000 in
theorem ggX10_teaches_X10_keyAt : GoodIn wsX10_teaches wsX10_keyAt := goodIn_r _ [5] (by decide +kernel) (by decide +kernel)
set_option maxRecDepth 20000 in
theorem gX10_teaches_X10_keyAt : GoodIn wsX10_teaches (va_wsS RX10 69 yX10_keyAt wsX10_keyAt) := goodIn_app (goodIn_of _ (by decide +kernel)) ggX10_teaches_X10_keyAt
set_option maxRecDepth 20000 in
theorem ggX10_teaches_X10_far : GoodIn wsX10_teaches wsX10_far := goodIn_r _ [8] (by decide +kernel) (by decide +kernel)
set_option maxRecDepth 20000 in
theorem gX10_teaches_X10_far : GoodIn wsX10_teaches (va_wsS RX10 76 yX10_far wsX10_far) := goodIn_app (goodIn_of _ (by decide +kernel)) ggX10_teaches_X10_far
set_option maxRecDepth 20000 in
theorem ggX10_teaches_X10_wrongBit : GoodIn wsX10_teaches wsX10_wrongBit := goodIn_r _ [12, 13, 14, 15, 1, 27, 28, 29, 30, 31, 32, 33, 34, 35, 36, 37, 38, 39, 40, 41, 42, 43, 44, 45] (by decide +kernel) (by decide +kernel)
set_option maxRecDepth 20000 in
theorem gX10_teaches_X10_wrongBit : GoodIn wsX10_teaches (wsV RX10 79 RX10 yX10_wrongBit wsX10_wrongBit) := goodIn_app (goodIn_of _ (by decide +kernel)) ggX10_teaches_X10_wrongBit
set_option maxRecDepth 20000 in
theorem ggX10_teaches_X10_of : GoodIn wsX10_teaches wsX10_of := goodIn_r _ [19, 1, 27, 28, 29, 30, 31, 32, 33, 34, 35, 36, 37, 38, 39, 40, 41, 42, 43, 44, 45] (by decide +kernel) (by decide +kernel)
set_option maxRecDepth 20000 in
theorem gX10_teaches_X10_of : GoodIn wsX10_teaches (wsV RX10 65 RX10 yX10_of wsX10_of) := goodIn_app (goodIn_of _ (by decide +kernel)) ggX10_teaches_X10_of
set_option maxRecDepth 20000 in
theorem ggX10_teaches_X10_changed : GoodIn wsX10_teaches wsX10_changed := goodIn_r _ [22] (by decide +kernel) (by decide +kernel)
set_option maxRecDepth 20000 in
theorem gX10_teaches_X10_changed : GoodIn wsX10_teaches (va_wsS RX10 83 yX10_changed wsX10_changed) := goodIn_app (goodIn_of _ (by decide +kernel)) ggX10_teaches_X10_changed
set_option maxRecDepth 20000 in
theorem ggX10_teaches_X10_makes : GoodIn wsX10_teaches wsX10_makes := goodIn_r _ [26, 1, 2, 3, 4, 5, 27, 28, 29, 30, 31, 32, 33, 34, 35, 36, 37, 38, 39, 40, 41, 42, 43, 44, 45] (by decide +kernel) (by decide +kernel)
set_option maxRecDepth 20000 in
theorem gX10_teaches_X10_makes : GoodIn wsX10_teaches (wsV RX10 86 RX10 yX10_makes wsX10_makes) := goodIn_app (goodIn_of _ (by decide +kernel)) ggX10_teaches_X10_makes
theorem dX10_teaches_0 : decode cX10_teaches 0 = .ok (.aload_n 0, 1) := by decide +kernel
theorem dX10_teaches_1 : decode cX10_teaches 1 = .ok (.getfield 7, 3) := by decide +kernel
theorem dX10_teaches_4 : decode cX10_teaches 4 = .ok (.iload_n 1, 1) := by decide +kernel
theorem dX10_teaches_5 : decode cX10_teaches 5 = .ok (.iload_n 2, 1) := by decide +kernel
theorem dX10_teaches_6 : decode cX10_teaches 6 = .ok (.invokestatic 69, 3) := by decide +kernel
theorem dX10_teaches_9 : decode cX10_teaches 9 = .ok (.iaload, 1) := by decide +kernel
theorem dX10_teaches_10 : decode cX10_teaches 10 = .ok (.istore 5, 2) := by decide +kernel
theorem dX10_teaches_12 : decode cX10_teaches 12 = .ok (.aload_n 0, 1) := by decide +kernel
theorem dX10_teaches_13 : decode cX10_teaches 13 = .ok (.iload_n 1, 1) := by decide +kernel
theorem dX10_teaches_14 : decode cX10_teaches 14 = .ok (.iload_n 3, 1) := by decide +kernel
theorem dX10_teaches_15 : decode cX10_teaches 15 = .ok (.invokestatic 76, 3) := by decide +kernel
theorem dX10_teaches_18 : decode cX10_teaches 18 = .ok (.invokevirtual 79, 3) := by decide +kernel
theorem dX10_teaches_21 : decode cX10_teaches 21 = .ok (.istore 6, 2) := by decide +kernel
theorem dX10_teaches_23 : decode cX10_teaches 23 = .ok (.aload_n 0, 1) := by decide +kernel
theorem dX10_teaches_24 : decode cX10_teaches 24 = .ok (.iload 5, 2) := by decide +kernel
theorem dX10_teaches_26 : decode cX10_teaches 26 = .ok (.iconst 0, 1) := by decide +kernel
theorem dX10_teaches_27 : decode cX10_teaches 27 = .ok (.invokevirtual 65, 3) := by decide +kernel
theorem dX10_teaches_30 : decode cX10_teaches 30 = .ok (.iload 6, 2) := by decide +kernel
theorem dX10_teaches_32 : decode cX10_teaches 32 = .ok (.invokestatic 83, 3) := by decide +kernel
theorem dX10_teaches_35 : decode cX10_teaches 35 = .ok (.istore 7, 2) := by decide +kernel
theorem dX10_teaches_37 : decode cX10_teaches 37 = .ok (.aload_n 0, 1) := by decide +kernel
theorem dX10_teaches_38 : decode cX10_teaches 38 = .ok (.iload 7, 2) := by decide +kernel
theorem dX10_teaches_40 : decode cX10_teaches 40 = .ok (.iload_n 3, 1) := by decide +kernel
theorem dX10_teaches_41 : decode cX10_teaches 41 = .ok (.iload 4, 2) := by decide +kernel
theorem dX10_teaches_43 : decode cX10_teaches 43 = .ok (.iload 5, 2) := by decide +kernel
theorem dX10_teaches_45 : decode cX10_teaches 45 = .ok (.iload 6, 2) := by decide +kernel
theorem dX10_teaches_47 : decode cX10_teaches 47 = .ok (.invokevirtual 86, 3) := by decide +kernel
theorem dX10_teaches_50 : decode cX10_teaches 50 = .ok (.pop, 1) := by decide +kernel
theorem dX10_teaches_51 : decode cX10_teaches 51 = .ok (.iload 7, 2) := by decide +kernel
theorem dX10_teaches_53 : decode cX10_teaches 53 = .ok (.ireturn, 1) := by decide +kernel
set_option maxRecDepth 20000 in
theorem ggX10_accepts_X10_ofDevice : GoodIn wsX10_accepts wsX10_ofDevice := goodIn_r _ [5, 6, 13, 14, 15, 16, 17, 18, 19, 20, 21, 22, 23, 24, 25, 26, 27, 28, 29, 30, 31] (by decide +kernel) (by decide +kernel)
set_option maxRecDepth 20000 in
theorem gX10_accepts_X10_ofDevice : GoodIn wsX10_accepts (wsV RX10 90 RX10 yX10_ofDevice wsX10_ofDevice) := goodIn_app (goodIn_of _ (by decide +kernel)) ggX10_accepts_X10_ofDevice
set_option maxRecDepth 20000 in
theorem ggX10_accepts_X10_far : GoodIn wsX10_accepts wsX10_far := goodIn_r _ [9] (by decide +kernel) (by decide +kernel)
set_option maxRecDepth 20000 in
theorem gX10_accepts_X10_far : GoodIn wsX10_accepts (va_wsS RX10 76 yX10_far wsX10_far) := goodIn_app (goodIn_of _ (by decide +kernel)) ggX10_accepts_X10_far
set_option maxRecDepth 20000 in
theorem ggX10_accepts_X10_apart : GoodIn wsX10_accepts wsX10_apart := goodIn_r _ [12] (by decide +kernel) (by decide +kernel)
set_option maxRecDepth 20000 in
theorem gX10_accepts_X10_apart : GoodIn wsX10_accepts (va_wsS RX10 93 yX10_apart wsX10_apart) := goodIn_app (goodIn_of _ (by decide +kernel)) ggX10_accepts_X10_apart
theorem dX10_accepts_0 : decode cX10_accepts 0 = .ok (.aload_n 0, 1) := by decide +kernel
theorem dX10_accepts_1 : decode cX10_accepts 1 = .ok (.iload_n 1, 1) := by decide +kernel
theorem dX10_accepts_2 : decode cX10_accepts 2 = .ok (.iconst 0, 1) := by decide +kernel
theorem dX10_accepts_3 : decode cX10_accepts 3 = .ok (.invokevirtual 90, 3) := by decide +kernel
theorem dX10_accepts_6 : decode cX10_accepts 6 = .ok (.iload_n 3, 1) := by decide +kernel
theorem dX10_accepts_7 : decode cX10_accepts 7 = .ok (.invokestatic 76, 3) := by decide +kernel
theorem dX10_accepts_10 : decode cX10_accepts 10 = .ok (.iload 4, 2) := by decide +kernel
theorem dX10_accepts_12 : decode cX10_accepts 12 = .ok (.if_icmp .gt 26, 3) := by decide +kernel
theorem dX10_accepts_15 : decode cX10_accepts 15 = .ok (.aload_n 0, 1) := by decide +kernel
theorem dX10_accepts_16 : decode cX10_accepts 16 = .ok (.iload_n 1, 1) := by decide +kernel
theorem dX10_accepts_17 : decode cX10_accepts 17 = .ok (.iconst 1, 1) := by decide +kernel
theorem dX10_accepts_18 : decode cX10_accepts 18 = .ok (.invokevirtual 90, 3) := by decide +kernel
theorem dX10_accepts_21 : decode cX10_accepts 21 = .ok (.iload_n 2, 1) := by decide +kernel
theorem dX10_accepts_22 : decode cX10_accepts 22 = .ok (.invokestatic 93, 3) := by decide +kernel
theorem dX10_accepts_25 : decode cX10_accepts 25 = .ok (.aload_n 0, 1) := by decide +kernel
theorem dX10_accepts_26 : decode cX10_accepts 26 = .ok (.iload_n 1, 1) := by decide +kernel
theorem dX10_accepts_27 : decode cX10_accepts 27 = .ok (.iconst 2, 1) := by decide +kernel
theorem dX10_accepts_28 : decode cX10_accepts 28 = .ok (.invokevirtual 90, 3) := by decide +kernel
theorem dX10_accepts_31 : decode cX10_accepts 31 = .ok (.if_icmp .gt 7, 3) := by decide +kernel
theorem dX10_accepts_34 : decode cX10_accepts 34 = .ok (.iconst 1, 1) := by decide +kernel
theorem dX10_accepts_35 : decode cX10_accepts 35 = .ok (.goto 4, 3) := by decide +kernel
theorem dX10_accepts_38 : decode cX10_accepts 38 = .ok (.iconst 0, 1) := by decide +kernel
theorem dX10_accepts_39 : decode cX10_accepts 39 = .ok (.ireturn, 1) := by decide +kernel
set_option maxRecDepth 20000 in
theorem ggX10_acceptedBy_X10_keyAt : GoodIn wsX10_acceptedBy wsX10_keyAt := goodIn_r _ [5] (by decide +kernel) (by decide +kernel)
set_option maxRecDepth 20000 in
theorem gX10_acceptedBy_X10_keyAt : GoodIn wsX10_acceptedBy (va_wsS RX10 69 yX10_keyAt wsX10_keyAt) := goodIn_app (goodIn_of _ (by decide +kernel)) ggX10_acceptedBy_X10_keyAt
set_option maxRecDepth 20000 in
theorem ggX10_acceptedBy_X10_of : GoodIn wsX10_acceptedBy wsX10_of := goodIn_r _ [9, 1, 24, 25, 26, 27, 28, 29, 30, 31, 32, 33, 34, 35, 36, 37, 38, 39, 40, 41, 42] (by decide +kernel) (by decide +kernel)
set_option maxRecDepth 20000 in
theorem gX10_acceptedBy_X10_of : GoodIn wsX10_acceptedBy (wsV RX10 65 RX10 yX10_of wsX10_of) := goodIn_app (goodIn_of _ (by decide +kernel)) ggX10_acceptedBy_X10_of
set_option maxRecDepth 20000 in
theorem ggX10_acceptedBy_X10_accepts : GoodIn wsX10_acceptedBy wsX10_accepts := goodIn_r _ [13, 14, 15, 16, 4, 17, 1, 18, 19, 20, 21, 22, 23, 24, 25, 26, 27, 28, 29, 30, 31, 32, 33, 34, 35, 36, 37, 38, 39, 40, 41, 42] (by decide +kernel) (by decide +kernel)
set_option maxRecDepth 20000 in
theorem gX10_acceptedBy_X10_accepts : GoodIn wsX10_acceptedBy (wsV RX10 96 RX10 yX10_accepts wsX10_accepts) := goodIn_app (goodIn_of _ (by decide +kernel)) ggX10_acceptedBy_X10_accepts
theorem dX10_acceptedBy_0 : decode cX10_acceptedBy 0 = .ok (.aload_n 0, 1) := by decide +kernel
theorem dX10_acceptedBy_1 : decode cX10_acceptedBy 1 = .ok (.getfield 7, 3) := by decide +kernel
theorem dX10_acceptedBy_4 : decode cX10_acceptedBy 4 = .ok (.iload_n 1, 1) := by decide +kernel
theorem dX10_acceptedBy_5 : decode cX10_acceptedBy 5 = .ok (.iload_n 2, 1) := by decide +kernel
theorem dX10_acceptedBy_6 : decode cX10_acceptedBy 6 = .ok (.invokestatic 69, 3) := by decide +kernel
theorem dX10_acceptedBy_9 : decode cX10_acceptedBy 9 = .ok (.iaload, 1) := by decide +kernel
theorem dX10_acceptedBy_10 : decode cX10_acceptedBy 10 = .ok (.istore_n 3, 1) := by decide +kernel
theorem dX10_acceptedBy_11 : decode cX10_acceptedBy 11 = .ok (.iconst 0, 1) := by decide +kernel
theorem dX10_acceptedBy_12 : decode cX10_acceptedBy 12 = .ok (.istore 4, 2) := by decide +kernel
theorem dX10_acceptedBy_14 : decode cX10_acceptedBy 14 = .ok (.iconst 0, 1) := by decide +kernel
theorem dX10_acceptedBy_15 : decode cX10_acceptedBy 15 = .ok (.istore 5, 2) := by decide +kernel
theorem dX10_acceptedBy_17 : decode cX10_acceptedBy 17 = .ok (.iload 5, 2) := by decide +kernel
theorem dX10_acceptedBy_19 : decode cX10_acceptedBy 19 = .ok (.aload_n 0, 1) := by decide +kernel
theorem dX10_acceptedBy_20 : decode cX10_acceptedBy 20 = .ok (.getfield 7, 3) := by decide +kernel
theorem dX10_acceptedBy_23 : decode cX10_acceptedBy 23 = .ok (.iconst 1, 1) := by decide +kernel
theorem dX10_acceptedBy_24 : decode cX10_acceptedBy 24 = .ok (.iaload, 1) := by decide +kernel
theorem dX10_acceptedBy_25 : decode cX10_acceptedBy 25 = .ok (.if_icmp .ge 48, 3) := by decide +kernel
theorem dX10_acceptedBy_28 : decode cX10_acceptedBy 28 = .ok (.iload_n 3, 1) := by decide +kernel
theorem dX10_acceptedBy_29 : decode cX10_acceptedBy 29 = .ok (.ifCond .lt 44, 3) := by decide +kernel
theorem dX10_acceptedBy_32 : decode cX10_acceptedBy 32 = .ok (.iload 4, 2) := by decide +kernel
theorem dX10_acceptedBy_34 : decode cX10_acceptedBy 34 = .ok (.aload_n 0, 1) := by decide +kernel
theorem dX10_acceptedBy_35 : decode cX10_acceptedBy 35 = .ok (.iload 5, 2) := by decide +kernel
theorem dX10_acceptedBy_37 : decode cX10_acceptedBy 37 = .ok (.aload_n 0, 1) := by decide +kernel
theorem dX10_acceptedBy_38 : decode cX10_acceptedBy 38 = .ok (.iload_n 3, 1) := by decide +kernel
theorem dX10_acceptedBy_39 : decode cX10_acceptedBy 39 = .ok (.iconst 0, 1) := by decide +kernel
theorem dX10_acceptedBy_40 : decode cX10_acceptedBy 40 = .ok (.invokevirtual 65, 3) := by decide +kernel
theorem dX10_acceptedBy_43 : decode cX10_acceptedBy 43 = .ok (.iload_n 1, 1) := by decide +kernel
theorem dX10_acceptedBy_44 : decode cX10_acceptedBy 44 = .ok (.aload_n 0, 1) := by decide +kernel
theorem dX10_acceptedBy_45 : decode cX10_acceptedBy 45 = .ok (.getfield 7, 3) := by decide +kernel
theorem dX10_acceptedBy_48 : decode cX10_acceptedBy 48 = .ok (.iconst 4, 1) := by decide +kernel
theorem dX10_acceptedBy_49 : decode cX10_acceptedBy 49 = .ok (.iaload, 1) := by decide +kernel
theorem dX10_acceptedBy_50 : decode cX10_acceptedBy 50 = .ok (.invokevirtual 96, 3) := by decide +kernel
theorem dX10_acceptedBy_53 : decode cX10_acceptedBy 53 = .ok (.ifCond .eq 10, 3) := by decide +kernel
theorem dX10_acceptedBy_56 : decode cX10_acceptedBy 56 = .ok (.iconst 1, 1) := by decide +kernel
theorem dX10_acceptedBy_57 : decode cX10_acceptedBy 57 = .ok (.iload 5, 2) := by decide +kernel
theorem dX10_acceptedBy_59 : decode cX10_acceptedBy 59 = .ok (.ishl, 1) := by decide +kernel
theorem dX10_acceptedBy_60 : decode cX10_acceptedBy 60 = .ok (.goto 4, 3) := by decide +kernel
theorem dX10_acceptedBy_63 : decode cX10_acceptedBy 63 = .ok (.iconst 0, 1) := by decide +kernel
theorem dX10_acceptedBy_64 : decode cX10_acceptedBy 64 = .ok (.ior, 1) := by decide +kernel
theorem dX10_acceptedBy_65 : decode cX10_acceptedBy 65 = .ok (.istore 4, 2) := by decide +kernel
theorem dX10_acceptedBy_67 : decode cX10_acceptedBy 67 = .ok (.iinc 5 1, 3) := by decide +kernel
theorem dX10_acceptedBy_70 : decode cX10_acceptedBy 70 = .ok (.goto (-53), 3) := by decide +kernel
theorem dX10_acceptedBy_73 : decode cX10_acceptedBy 73 = .ok (.iload 4, 2) := by decide +kernel
theorem dX10_acceptedBy_75 : decode cX10_acceptedBy 75 = .ok (.ireturn, 1) := by decide +kernel
set_option maxRecDepth 20000 in
theorem ggX10_presses_X10_acceptedBy : GoodIn wsX10_presses wsX10_acceptedBy := goodIn_r _ [6, 1, 7, 8, 5, 9, 10, 11, 12, 13, 14, 15, 16, 17, 18, 19, 20, 21, 22, 23, 24, 25, 26, 27, 28, 29, 30, 31, 32, 33, 34, 35, 36, 37, 38, 39, 40, 41, 42, 43, 44, 45, 46] (by decide +kernel) (by decide +kernel)
set_option maxRecDepth 20000 in
theorem gX10_presses_X10_acceptedBy : GoodIn wsX10_presses (wsV RX10 100 RX10 yX10_acceptedBy wsX10_acceptedBy) := goodIn_app (goodIn_of _ (by decide +kernel)) ggX10_presses_X10_acceptedBy
theorem dX10_presses_0 : decode cX10_presses 0 = .ok (.aload_n 0, 1) := by decide +kernel
theorem dX10_presses_1 : decode cX10_presses 1 = .ok (.iload_n 1, 1) := by decide +kernel
theorem dX10_presses_2 : decode cX10_presses 2 = .ok (.iload_n 2, 1) := by decide +kernel
theorem dX10_presses_3 : decode cX10_presses 3 = .ok (.invokevirtual 100, 3) := by decide +kernel
theorem dX10_presses_6 : decode cX10_presses 6 = .ok (.istore_n 3, 1) := by decide +kernel
theorem dX10_presses_7 : decode cX10_presses 7 = .ok (.iconst 0, 1) := by decide +kernel
theorem dX10_presses_8 : decode cX10_presses 8 = .ok (.istore 4, 2) := by decide +kernel
theorem dX10_presses_10 : decode cX10_presses 10 = .ok (.iload 4, 2) := by decide +kernel
theorem dX10_presses_12 : decode cX10_presses 12 = .ok (.aload_n 0, 1) := by decide +kernel
theorem dX10_presses_13 : decode cX10_presses 13 = .ok (.getfield 7, 3) := by decide +kernel
theorem dX10_presses_16 : decode cX10_presses 16 = .ok (.iconst 1, 1) := by decide +kernel
theorem dX10_presses_17 : decode cX10_presses 17 = .ok (.iaload, 1) := by decide +kernel
theorem dX10_presses_18 : decode cX10_presses 18 = .ok (.if_icmp .ge 33, 3) := by decide +kernel
theorem dX10_presses_21 : decode cX10_presses 21 = .ok (.aload_n 0, 1) := by decide +kernel
theorem dX10_presses_22 : decode cX10_presses 22 = .ok (.getfield 7, 3) := by decide +kernel
theorem dX10_presses_25 : decode cX10_presses 25 = .ok (.sipush 259, 3) := by decide +kernel
theorem dX10_presses_28 : decode cX10_presses 28 = .ok (.iconst 4, 1) := by decide +kernel
theorem dX10_presses_29 : decode cX10_presses 29 = .ok (.iload 4, 2) := by decide +kernel
theorem dX10_presses_31 : decode cX10_presses 31 = .ok (.imul, 1) := by decide +kernel
theorem dX10_presses_32 : decode cX10_presses 32 = .ok (.iadd, 1) := by decide +kernel
theorem dX10_presses_33 : decode cX10_presses 33 = .ok (.iconst 3, 1) := by decide +kernel
theorem dX10_presses_34 : decode cX10_presses 34 = .ok (.iadd, 1) := by decide +kernel
theorem dX10_presses_35 : decode cX10_presses 35 = .ok (.dup2, 1) := by decide +kernel
theorem dX10_presses_36 : decode cX10_presses 36 = .ok (.iaload, 1) := by decide +kernel
theorem dX10_presses_37 : decode cX10_presses 37 = .ok (.iload_n 3, 1) := by decide +kernel
theorem dX10_presses_38 : decode cX10_presses 38 = .ok (.iload 4, 2) := by decide +kernel
theorem dX10_presses_40 : decode cX10_presses 40 = .ok (.ishr, 1) := by decide +kernel
theorem dX10_presses_41 : decode cX10_presses 41 = .ok (.iconst 1, 1) := by decide +kernel
theorem dX10_presses_42 : decode cX10_presses 42 = .ok (.iand, 1) := by decide +kernel
theorem dX10_presses_43 : decode cX10_presses 43 = .ok (.ixor, 1) := by decide +kernel
theorem dX10_presses_44 : decode cX10_presses 44 = .ok (.iastore, 1) := by decide +kernel
theorem dX10_presses_45 : decode cX10_presses 45 = .ok (.iinc 4 1, 3) := by decide +kernel
theorem dX10_presses_48 : decode cX10_presses 48 = .ok (.goto (-38), 3) := by decide +kernel
theorem dX10_presses_51 : decode cX10_presses 51 = .ok (.iload_n 3, 1) := by decide +kernel
theorem dX10_presses_52 : decode cX10_presses 52 = .ok (.ireturn, 1) := by decide +kernel
set_option maxRecDepth 20000 in
theorem ggX10_append_X10_in : GoodIn wsX10_append wsX10_in := goodIn_r _ [8] (by decide +kernel) (by decide +kernel)
set_option maxRecDepth 20000 in
theorem gX10_append_X10_in : GoodIn wsX10_append (va_wsS RX10 47 yX10_in wsX10_in) := goodIn_app (goodIn_of _ (by decide +kernel)) ggX10_append_X10_in
set_option maxRecDepth 20000 in
theorem ggX10_append_X10_fails : GoodIn wsX10_append wsX10_fails := goodIn_r _ [12, 1, 13, 14, 15, 16, 17, 18, 19, 20, 21, 22, 23, 24, 25, 26, 27, 28, 29, 30, 31] (by decide +kernel) (by decide +kernel)
set_option maxRecDepth 20000 in
theorem gX10_append_X10_fails : GoodIn wsX10_append (wsV RX10 105 RX10 yX10_fails wsX10_fails) := goodIn_app (goodIn_of _ (by decide +kernel)) ggX10_append_X10_fails
theorem dX10_append_0 : decode cX10_append 0 = .ok (.aload_n 0, 1) := by decide +kernel
theorem dX10_append_1 : decode cX10_append 1 = .ok (.iconst 0, 1) := by decide +kernel
theorem dX10_append_2 : decode cX10_append 2 = .ok (.putfield 39, 3) := by decide +kernel
theorem dX10_append_5 : decode cX10_append 5 = .ok (.iload_n 1, 1) := by decide +kernel
theorem dX10_append_6 : decode cX10_append 6 = .ok (.i2l, 1) := by decide +kernel
theorem dX10_append_7 : decode cX10_append 7 = .ok (.lconst 0, 1) := by decide +kernel
theorem dX10_append_8 : decode cX10_append 8 = .ok (.ldc2_w 103, 3) := by decide +kernel
theorem dX10_append_11 : decode cX10_append 11 = .ok (.invokestatic 47, 3) := by decide +kernel
theorem dX10_append_14 : decode cX10_append 14 = .ok (.ifCond .ne 9, 3) := by decide +kernel
theorem dX10_append_17 : decode cX10_append 17 = .ok (.aload_n 0, 1) := by decide +kernel
theorem dX10_append_18 : decode cX10_append 18 = .ok (.iconst 1, 1) := by decide +kernel
theorem dX10_append_19 : decode cX10_append 19 = .ok (.invokevirtual 105, 3) := by decide +kernel
theorem dX10_append_22 : decode cX10_append 22 = .ok (.ireturn, 1) := by decide +kernel
theorem dX10_append_23 : decode cX10_append 23 = .ok (.aload_n 0, 1) := by decide +kernel
theorem dX10_append_24 : decode cX10_append 24 = .ok (.getfield 108, 3) := by decide +kernel
theorem dX10_append_27 : decode cX10_append 27 = .ok (.bipush 120, 2) := by decide +kernel
theorem dX10_append_29 : decode cX10_append 29 = .ok (.if_icmp .ne 9, 3) := by decide +kernel
theorem dX10_append_32 : decode cX10_append 32 = .ok (.aload_n 0, 1) := by decide +kernel
theorem dX10_append_33 : decode cX10_append 33 = .ok (.iconst 2, 1) := by decide +kernel
theorem dX10_append_34 : decode cX10_append 34 = .ok (.invokevirtual 105, 3) := by decide +kernel
theorem dX10_append_37 : decode cX10_append 37 = .ok (.ireturn, 1) := by decide +kernel
theorem dX10_append_38 : decode cX10_append 38 = .ok (.aload_n 0, 1) := by decide +kernel
theorem dX10_append_39 : decode cX10_append 39 = .ok (.getfield 33, 3) := by decide +kernel
theorem dX10_append_42 : decode cX10_append 42 = .ok (.aload_n 0, 1) := by decide +kernel
theorem dX10_append_43 : decode cX10_append 43 = .ok (.getfield 108, 3) := by decide +kernel
theorem dX10_append_46 : decode cX10_append 46 = .ok (.iload_n 1, 1) := by decide +kernel
theorem dX10_append_47 : decode cX10_append 47 = .ok (.iastore, 1) := by decide +kernel
theorem dX10_append_48 : decode cX10_append 48 = .ok (.aload_n 0, 1) := by decide +kernel
theorem dX10_append_49 : decode cX10_append 49 = .ok (.dup, 1) := by decide +kernel
theorem dX10_append_50 : decode cX10_append 50 = .ok (.getfield 108, 3) := by decide +kernel
theorem dX10_append_53 : decode cX10_append 53 = .ok (.iconst 1, 1) := by decide +kernel
theorem dX10_append_54 : decode cX10_append 54 = .ok (.iadd, 1) := by decide +kernel
theorem dX10_append_55 : decode cX10_append 55 = .ok (.putfield 108, 3) := by decide +kernel
theorem dX10_append_58 : decode cX10_append 58 = .ok (.aload_n 0, 1) := by decide +kernel
theorem dX10_append_59 : decode cX10_append 59 = .ok (.getfield 108, 3) := by decide +kernel
theorem dX10_append_62 : decode cX10_append 62 = .ok (.ireturn, 1) := by decide +kernel
theorem dX10_clearText_0 : decode cX10_clearText 0 = .ok (.aload_n 0, 1) := by decide +kernel
theorem dX10_clearText_1 : decode cX10_clearText 1 = .ok (.iconst 0, 1) := by decide +kernel
theorem dX10_clearText_2 : decode cX10_clearText 2 = .ok (.putfield 39, 3) := by decide +kernel
theorem dX10_clearText_5 : decode cX10_clearText 5 = .ok (.aload_n 0, 1) := by decide +kernel
theorem dX10_clearText_6 : decode cX10_clearText 6 = .ok (.getfield 108, 3) := by decide +kernel
theorem dX10_clearText_9 : decode cX10_clearText 9 = .ok (.istore_n 1, 1) := by decide +kernel
theorem dX10_clearText_10 : decode cX10_clearText 10 = .ok (.aload_n 0, 1) := by decide +kernel
theorem dX10_clearText_11 : decode cX10_clearText 11 = .ok (.iconst 0, 1) := by decide +kernel
theorem dX10_clearText_12 : decode cX10_clearText 12 = .ok (.putfield 108, 3) := by decide +kernel
theorem dX10_clearText_15 : decode cX10_clearText 15 = .ok (.iload_n 1, 1) := by decide +kernel
theorem dX10_clearText_16 : decode cX10_clearText 16 = .ok (.ireturn, 1) := by decide +kernel
theorem dX10_sign_0 : decode cX10_sign 0 = .ok (.aload_n 0, 1) := by decide +kernel
theorem dX10_sign_1 : decode cX10_sign 1 = .ok (.getfield 111, 3) := by decide +kernel
theorem dX10_sign_4 : decode cX10_sign 4 = .ok (.aload_n 0, 1) := by decide +kernel
theorem dX10_sign_5 : decode cX10_sign 5 = .ok (.getfield 108, 3) := by decide +kernel
theorem dX10_sign_8 : decode cX10_sign 8 = .ok (.if_icmp .ge 20, 3) := by decide +kernel
theorem dX10_sign_11 : decode cX10_sign 11 = .ok (.aload_n 0, 1) := by decide +kernel
theorem dX10_sign_12 : decode cX10_sign 12 = .ok (.getfield 33, 3) := by decide +kernel
theorem dX10_sign_15 : decode cX10_sign 15 = .ok (.aload_n 0, 1) := by decide +kernel
theorem dX10_sign_16 : decode cX10_sign 16 = .ok (.getfield 111, 3) := by decide +kernel
theorem dX10_sign_19 : decode cX10_sign 19 = .ok (.iaload, 1) := by decide +kernel
theorem dX10_sign_20 : decode cX10_sign 20 = .ok (.iload_n 1, 1) := by decide +kernel
theorem dX10_sign_21 : decode cX10_sign 21 = .ok (.if_icmp .ne 7, 3) := by decide +kernel
theorem dX10_sign_24 : decode cX10_sign 24 = .ok (.iconst 1, 1) := by decide +kernel
theorem dX10_sign_25 : decode cX10_sign 25 = .ok (.goto 4, 3) := by decide +kernel
theorem dX10_sign_28 : decode cX10_sign 28 = .ok (.iconst 0, 1) := by decide +kernel
theorem dX10_sign_29 : decode cX10_sign 29 = .ok (.istore_n 2, 1) := by decide +kernel
theorem dX10_sign_30 : decode cX10_sign 30 = .ok (.aload_n 0, 1) := by decide +kernel
theorem dX10_sign_31 : decode cX10_sign 31 = .ok (.dup, 1) := by decide +kernel
theorem dX10_sign_32 : decode cX10_sign 32 = .ok (.getfield 111, 3) := by decide +kernel
theorem dX10_sign_35 : decode cX10_sign 35 = .ok (.iload_n 2, 1) := by decide +kernel
theorem dX10_sign_36 : decode cX10_sign 36 = .ok (.ifCond .eq 7, 3) := by decide +kernel
theorem dX10_sign_39 : decode cX10_sign 39 = .ok (.iconst 1, 1) := by decide +kernel
theorem dX10_sign_40 : decode cX10_sign 40 = .ok (.goto 4, 3) := by decide +kernel
theorem dX10_sign_43 : decode cX10_sign 43 = .ok (.iconst 0, 1) := by decide +kernel
theorem dX10_sign_44 : decode cX10_sign 44 = .ok (.iadd, 1) := by decide +kernel
theorem dX10_sign_45 : decode cX10_sign 45 = .ok (.putfield 111, 3) := by decide +kernel
theorem dX10_sign_48 : decode cX10_sign 48 = .ok (.iload_n 2, 1) := by decide +kernel
theorem dX10_sign_49 : decode cX10_sign 49 = .ok (.ireturn, 1) := by decide +kernel
set_option maxRecDepth 20000 in
theorem ggX10_digitTo_X10_in : GoodIn wsX10_digitTo wsX10_in := goodIn_r _ [8] (by decide +kernel) (by decide +kernel)
set_option maxRecDepth 20000 in
theorem gX10_digitTo_X10_in : GoodIn wsX10_digitTo (va_wsS RX10 47 yX10_in wsX10_in) := goodIn_app (goodIn_of _ (by decide +kernel)) ggX10_digitTo_X10_in
theorem dX10_digitTo_0 : decode cX10_digitTo 0 = .ok (.aload_n 0, 1) := by decide +kernel
theorem dX10_digitTo_1 : decode cX10_digitTo 1 = .ok (.aload_n 0, 1) := by decide +kernel
theorem dX10_digitTo_2 : decode cX10_digitTo 2 = .ok (.getfield 111, 3) := by decide +kernel
theorem dX10_digitTo_5 : decode cX10_digitTo 5 = .ok (.aload_n 0, 1) := by decide +kernel
theorem dX10_digitTo_6 : decode cX10_digitTo 6 = .ok (.getfield 108, 3) := by decide +kernel
theorem dX10_digitTo_9 : decode cX10_digitTo 9 = .ok (.if_icmp .ge 18, 3) := by decide +kernel
theorem dX10_digitTo_12 : decode cX10_digitTo 12 = .ok (.aload_n 0, 1) := by decide +kernel
theorem dX10_digitTo_13 : decode cX10_digitTo 13 = .ok (.getfield 33, 3) := by decide +kernel
theorem dX10_digitTo_16 : decode cX10_digitTo 16 = .ok (.aload_n 0, 1) := by decide +kernel
theorem dX10_digitTo_17 : decode cX10_digitTo 17 = .ok (.getfield 111, 3) := by decide +kernel
theorem dX10_digitTo_20 : decode cX10_digitTo 20 = .ok (.iaload, 1) := by decide +kernel
theorem dX10_digitTo_21 : decode cX10_digitTo 21 = .ok (.bipush 48, 2) := by decide +kernel
theorem dX10_digitTo_23 : decode cX10_digitTo 23 = .ok (.isub, 1) := by decide +kernel
theorem dX10_digitTo_24 : decode cX10_digitTo 24 = .ok (.goto 4, 3) := by decide +kernel
theorem dX10_digitTo_27 : decode cX10_digitTo 27 = .ok (.iconst (-1), 1) := by decide +kernel
theorem dX10_digitTo_28 : decode cX10_digitTo 28 = .ok (.putfield 114, 3) := by decide +kernel
theorem dX10_digitTo_31 : decode cX10_digitTo 31 = .ok (.aload_n 0, 1) := by decide +kernel
theorem dX10_digitTo_32 : decode cX10_digitTo 32 = .ok (.getfield 114, 3) := by decide +kernel
theorem dX10_digitTo_35 : decode cX10_digitTo 35 = .ok (.i2l, 1) := by decide +kernel
theorem dX10_digitTo_36 : decode cX10_digitTo 36 = .ok (.iload_n 1, 1) := by decide +kernel
theorem dX10_digitTo_37 : decode cX10_digitTo 37 = .ok (.i2l, 1) := by decide +kernel
theorem dX10_digitTo_38 : decode cX10_digitTo 38 = .ok (.iload_n 2, 1) := by decide +kernel
theorem dX10_digitTo_39 : decode cX10_digitTo 39 = .ok (.i2l, 1) := by decide +kernel
theorem dX10_digitTo_40 : decode cX10_digitTo 40 = .ok (.invokestatic 47, 3) := by decide +kernel
theorem dX10_digitTo_43 : decode cX10_digitTo 43 = .ok (.istore_n 3, 1) := by decide +kernel
theorem dX10_digitTo_44 : decode cX10_digitTo 44 = .ok (.aload_n 0, 1) := by decide +kernel
theorem dX10_digitTo_45 : decode cX10_digitTo 45 = .ok (.dup, 1) := by decide +kernel
theorem dX10_digitTo_46 : decode cX10_digitTo 46 = .ok (.getfield 111, 3) := by decide +kernel
theorem dX10_digitTo_49 : decode cX10_digitTo 49 = .ok (.iload_n 3, 1) := by decide +kernel
theorem dX10_digitTo_50 : decode cX10_digitTo 50 = .ok (.ifCond .eq 7, 3) := by decide +kernel
theorem dX10_digitTo_53 : decode cX10_digitTo 53 = .ok (.iconst 1, 1) := by decide +kernel
theorem dX10_digitTo_54 : decode cX10_digitTo 54 = .ok (.goto 4, 3) := by decide +kernel
theorem dX10_digitTo_57 : decode cX10_digitTo 57 = .ok (.iconst 0, 1) := by decide +kernel
theorem dX10_digitTo_58 : decode cX10_digitTo 58 = .ok (.iadd, 1) := by decide +kernel
theorem dX10_digitTo_59 : decode cX10_digitTo 59 = .ok (.putfield 111, 3) := by decide +kernel
theorem dX10_digitTo_62 : decode cX10_digitTo 62 = .ok (.iload_n 3, 1) := by decide +kernel
theorem dX10_digitTo_63 : decode cX10_digitTo 63 = .ok (.ireturn, 1) := by decide +kernel
set_option maxRecDepth 20000 in
theorem ggX10_readCode_X10_digitTo : GoodIn wsX10_readCode wsX10_digitTo := goodIn_r _ [7, 8, 9, 10, 2, 11, 12, 6, 13, 14, 15, 16, 17, 18, 19, 20, 21, 22, 23, 24, 25, 26, 27, 28, 29, 30, 31, 32] (by decide +kernel) (by decide +kernel)
set_option maxRecDepth 20000 in
theorem gX10_readCode_X10_digitTo : GoodIn wsX10_readCode (wsV RX10 120 RX10 yX10_digitTo wsX10_digitTo) := goodIn_app (goodIn_of _ (by decide +kernel)) ggX10_readCode_X10_digitTo
theorem dX10_readCode_0 : decode cX10_readCode 0 = .ok (.aload_n 0, 1) := by decide +kernel
theorem dX10_readCode_1 : decode cX10_readCode 1 = .ok (.iconst 0, 1) := by decide +kernel
theorem dX10_readCode_2 : decode cX10_readCode 2 = .ok (.putfield 117, 3) := by decide +kernel
theorem dX10_readCode_5 : decode cX10_readCode 5 = .ok (.iconst 1, 1) := by decide +kernel
theorem dX10_readCode_6 : decode cX10_readCode 6 = .ok (.istore_n 1, 1) := by decide +kernel
theorem dX10_readCode_7 : decode cX10_readCode 7 = .ok (.iconst 0, 1) := by decide +kernel
theorem dX10_readCode_8 : decode cX10_readCode 8 = .ok (.istore_n 2, 1) := by decide +kernel
theorem dX10_readCode_9 : decode cX10_readCode 9 = .ok (.iload_n 2, 1) := by decide +kernel
theorem dX10_readCode_10 : decode cX10_readCode 10 = .ok (.iconst 4, 1) := by decide +kernel
theorem dX10_readCode_11 : decode cX10_readCode 11 = .ok (.if_icmp .ge 88, 3) := by decide +kernel
theorem dX10_readCode_14 : decode cX10_readCode 14 = .ok (.iload_n 1, 1) := by decide +kernel
theorem dX10_readCode_15 : decode cX10_readCode 15 = .ok (.ifCond .eq 84, 3) := by decide +kernel
theorem dX10_readCode_18 : decode cX10_readCode 18 = .ok (.iload_n 2, 1) := by decide +kernel
theorem dX10_readCode_19 : decode cX10_readCode 19 = .ok (.ifCond .ne 7, 3) := by decide +kernel
theorem dX10_readCode_22 : decode cX10_readCode 22 = .ok (.iconst 4, 1) := by decide +kernel
theorem dX10_readCode_23 : decode cX10_readCode 23 = .ok (.goto 46, 3) := by decide +kernel
theorem dX10_readCode_26 : decode cX10_readCode 26 = .ok (.iload_n 2, 1) := by decide +kernel
theorem dX10_readCode_27 : decode cX10_readCode 27 = .ok (.iconst 1, 1) := by decide +kernel
theorem dX10_readCode_28 : decode cX10_readCode 28 = .ok (.if_icmp .ne 20, 3) := by decide +kernel
theorem dX10_readCode_31 : decode cX10_readCode 31 = .ok (.aload_n 0, 1) := by decide +kernel
theorem dX10_readCode_32 : decode cX10_readCode 32 = .ok (.getfield 117, 3) := by decide +kernel
theorem dX10_readCode_35 : decode cX10_readCode 35 = .ok (.iconst 4, 1) := by decide +kernel
theorem dX10_readCode_36 : decode cX10_readCode 36 = .ok (.if_icmp .ne 7, 3) := by decide +kernel
theorem dX10_readCode_39 : decode cX10_readCode 39 = .ok (.iconst 0, 1) := by decide +kernel
theorem dX10_readCode_40 : decode cX10_readCode 40 = .ok (.goto 29, 3) := by decide +kernel
theorem dX10_readCode_43 : decode cX10_readCode 43 = .ok (.bipush 9, 2) := by decide +kernel
theorem dX10_readCode_45 : decode cX10_readCode 45 = .ok (.goto 24, 3) := by decide +kernel
theorem dX10_readCode_48 : decode cX10_readCode 48 = .ok (.iload_n 2, 1) := by decide +kernel
theorem dX10_readCode_49 : decode cX10_readCode 49 = .ok (.iconst 3, 1) := by decide +kernel
theorem dX10_readCode_50 : decode cX10_readCode 50 = .ok (.if_icmp .ne 17, 3) := by decide +kernel
theorem dX10_readCode_53 : decode cX10_readCode 53 = .ok (.aload_n 0, 1) := by decide +kernel
theorem dX10_readCode_54 : decode cX10_readCode 54 = .ok (.getfield 117, 3) := by decide +kernel
theorem dX10_readCode_57 : decode cX10_readCode 57 = .ok (.sipush 409, 3) := by decide +kernel
theorem dX10_readCode_60 : decode cX10_readCode 60 = .ok (.if_icmp .ne 7, 3) := by decide +kernel
theorem dX10_readCode_63 : decode cX10_readCode 63 = .ok (.iconst 5, 1) := by decide +kernel
theorem dX10_readCode_64 : decode cX10_readCode 64 = .ok (.goto 5, 3) := by decide +kernel
theorem dX10_readCode_67 : decode cX10_readCode 67 = .ok (.bipush 9, 2) := by decide +kernel
theorem dX10_readCode_69 : decode cX10_readCode 69 = .ok (.istore_n 3, 1) := by decide +kernel
theorem dX10_readCode_70 : decode cX10_readCode 70 = .ok (.aload_n 0, 1) := by decide +kernel
theorem dX10_readCode_71 : decode cX10_readCode 71 = .ok (.iconst 0, 1) := by decide +kernel
theorem dX10_readCode_72 : decode cX10_readCode 72 = .ok (.iload_n 3, 1) := by decide +kernel
theorem dX10_readCode_73 : decode cX10_readCode 73 = .ok (.invokevirtual 120, 3) := by decide +kernel
theorem dX10_readCode_76 : decode cX10_readCode 76 = .ok (.istore_n 1, 1) := by decide +kernel
theorem dX10_readCode_77 : decode cX10_readCode 77 = .ok (.aload_n 0, 1) := by decide +kernel
theorem dX10_readCode_78 : decode cX10_readCode 78 = .ok (.bipush 10, 2) := by decide +kernel
theorem dX10_readCode_80 : decode cX10_readCode 80 = .ok (.aload_n 0, 1) := by decide +kernel
theorem dX10_readCode_81 : decode cX10_readCode 81 = .ok (.getfield 117, 3) := by decide +kernel
theorem dX10_readCode_84 : decode cX10_readCode 84 = .ok (.imul, 1) := by decide +kernel
theorem dX10_readCode_85 : decode cX10_readCode 85 = .ok (.aload_n 0, 1) := by decide +kernel
theorem dX10_readCode_86 : decode cX10_readCode 86 = .ok (.getfield 114, 3) := by decide +kernel
theorem dX10_readCode_89 : decode cX10_readCode 89 = .ok (.iadd, 1) := by decide +kernel
theorem dX10_readCode_90 : decode cX10_readCode 90 = .ok (.putfield 117, 3) := by decide +kernel
theorem dX10_readCode_93 : decode cX10_readCode 93 = .ok (.iinc 2 1, 3) := by decide +kernel
theorem dX10_readCode_96 : decode cX10_readCode 96 = .ok (.goto (-87), 3) := by decide +kernel
theorem dX10_readCode_99 : decode cX10_readCode 99 = .ok (.iload_n 1, 1) := by decide +kernel
theorem dX10_readCode_100 : decode cX10_readCode 100 = .ok (.ireturn, 1) := by decide +kernel
set_option maxRecDepth 20000 in
theorem ggX10_part_X10_sign : GoodIn wsX10_part wsX10_sign := goodIn_r _ [11, 12, 13, 14, 37, 38, 39, 40, 41, 42, 43, 44, 45, 46, 47, 48, 49, 50, 51, 52, 53, 54, 55] (by decide +kernel) (by decide +kernel)
set_option maxRecDepth 20000 in
theorem gX10_part_X10_sign : GoodIn wsX10_part (wsV RX10 127 RX10 yX10_sign wsX10_sign) := goodIn_app (goodIn_of _ (by decide +kernel)) ggX10_part_X10_sign
set_option maxRecDepth 20000 in
theorem ggX10_part_X10_digitTo : GoodIn wsX10_part wsX10_digitTo := goodIn_r _ [18, 12, 13, 14, 3, 19, 20, 10, 21, 37, 38, 39, 40, 41, 42, 43, 44, 45, 46, 47, 48, 49, 50, 51, 52, 53, 54, 55] (by decide +kernel) (by decide +kernel)
set_option maxRecDepth 20000 in
theorem gX10_part_X10_digitTo : GoodIn wsX10_part (wsV RX10 120 RX10 yX10_digitTo wsX10_digitTo) := goodIn_app (goodIn_of _ (by decide +kernel)) ggX10_part_X10_digitTo
set_option maxRecDepth 20000 in
theorem ggX10_part_X10_readCode : GoodIn wsX10_part wsX10_readCode := goodIn_r _ [25, 4, 3, 15, 16, 17, 10, 18, 12, 13, 14, 19, 20, 21, 37, 38, 39, 40, 41, 42, 43, 44, 45, 46, 47, 48, 49, 50, 51, 52, 53, 54, 55] (by decide +kernel) (by decide +kernel)
set_option maxRecDepth 20000 in
theorem gX10_part_X10_readCode : GoodIn wsX10_part (wsV RX10 133 RX10 yX10_readCode wsX10_readCode) := goodIn_app (goodIn_of _ (by decide +kernel)) ggX10_part_X10_readCode
set_option maxRecDepth 20000 in
theorem ggX10_part_X10_makes : GoodIn wsX10_part wsX10_makes := goodIn_r _ [29, 6, 30, 31, 10, 32, 37, 38, 39, 40, 41, 42, 43, 44, 45, 46, 47, 48, 49, 50, 51, 52, 53, 54, 55] (by decide +kernel) (by decide +kernel)
set_option maxRecDepth 20000 in
theorem gX10_part_X10_makes : GoodIn wsX10_part (wsV RX10 86 RX10 yX10_makes wsX10_makes) := goodIn_app (goodIn_of _ (by decide +kernel)) ggX10_part_X10_makes
set_option maxRecDepth 20000 in
theorem ggX10_part_X10_adds : GoodIn wsX10_part wsX10_adds := goodIn_r _ [36, 6, 37, 38, 39, 40, 41, 42, 43, 44, 45, 46, 47, 48, 49, 50, 51, 52, 53, 54, 55] (by decide +kernel) (by decide +kernel)
set_option maxRecDepth 20000 in
theorem gX10_part_X10_adds : GoodIn wsX10_part (wsV RX10 140 RX10 yX10_adds wsX10_adds) := goodIn_app (goodIn_of _ (by decide +kernel)) ggX10_part_X10_adds
theorem dX10_part_0 : decode cX10_part 0 = .ok (.aload_n 0, 1) := by decide +kernel
theorem dX10_part_1 : decode cX10_part 1 = .ok (.getfield 124, 3) := by decide +kernel
theorem dX10_part_4 : decode cX10_part 4 = .ok (.bipush 12, 2) := by decide +kernel
theorem dX10_part_6 : decode cX10_part 6 = .ok (.if_icmp .ge 105, 3) := by decide +kernel
theorem dX10_part_9 : decode cX10_part 9 = .ok (.aload_n 0, 1) := by decide +kernel
theorem dX10_part_10 : decode cX10_part 10 = .ok (.bipush 107, 2) := by decide +kernel
theorem dX10_part_12 : decode cX10_part 12 = .ok (.invokevirtual 127, 3) := by decide +kernel
theorem dX10_part_15 : decode cX10_part 15 = .ok (.ifCond .eq 96, 3) := by decide +kernel
theorem dX10_part_18 : decode cX10_part 18 = .ok (.aload_n 0, 1) := by decide +kernel
theorem dX10_part_19 : decode cX10_part 19 = .ok (.dup, 1) := by decide +kernel
theorem dX10_part_20 : decode cX10_part 20 = .ok (.getfield 124, 3) := by decide +kernel
theorem dX10_part_23 : decode cX10_part 23 = .ok (.iconst 1, 1) := by decide +kernel
theorem dX10_part_24 : decode cX10_part 24 = .ok (.iadd, 1) := by decide +kernel
theorem dX10_part_25 : decode cX10_part 25 = .ok (.putfield 124, 3) := by decide +kernel
theorem dX10_part_28 : decode cX10_part 28 = .ok (.aload_n 0, 1) := by decide +kernel
theorem dX10_part_29 : decode cX10_part 29 = .ok (.iconst 0, 1) := by decide +kernel
theorem dX10_part_30 : decode cX10_part 30 = .ok (.aload_n 0, 1) := by decide +kernel
theorem dX10_part_31 : decode cX10_part 31 = .ok (.getfield 130, 3) := by decide +kernel
theorem dX10_part_34 : decode cX10_part 34 = .ok (.iconst 1, 1) := by decide +kernel
theorem dX10_part_35 : decode cX10_part 35 = .ok (.isub, 1) := by decide +kernel
theorem dX10_part_36 : decode cX10_part 36 = .ok (.invokevirtual 120, 3) := by decide +kernel
theorem dX10_part_39 : decode cX10_part 39 = .ok (.istore_n 2, 1) := by decide +kernel
theorem dX10_part_40 : decode cX10_part 40 = .ok (.aload_n 0, 1) := by decide +kernel
theorem dX10_part_41 : decode cX10_part 41 = .ok (.getfield 114, 3) := by decide +kernel
theorem dX10_part_44 : decode cX10_part 44 = .ok (.istore_n 3, 1) := by decide +kernel
theorem dX10_part_45 : decode cX10_part 45 = .ok (.iload_n 2, 1) := by decide +kernel
theorem dX10_part_46 : decode cX10_part 46 = .ok (.ifCond .eq 16, 3) := by decide +kernel
theorem dX10_part_49 : decode cX10_part 49 = .ok (.aload_n 0, 1) := by decide +kernel
theorem dX10_part_50 : decode cX10_part 50 = .ok (.iconst 0, 1) := by decide +kernel
theorem dX10_part_51 : decode cX10_part 51 = .ok (.iconst 5, 1) := by decide +kernel
theorem dX10_part_52 : decode cX10_part 52 = .ok (.invokevirtual 120, 3) := by decide +kernel
theorem dX10_part_55 : decode cX10_part 55 = .ok (.ifCond .eq 7, 3) := by decide +kernel
theorem dX10_part_58 : decode cX10_part 58 = .ok (.iconst 1, 1) := by decide +kernel
theorem dX10_part_59 : decode cX10_part 59 = .ok (.goto 4, 3) := by decide +kernel
theorem dX10_part_62 : decode cX10_part 62 = .ok (.iconst 0, 1) := by decide +kernel
theorem dX10_part_63 : decode cX10_part 63 = .ok (.istore_n 2, 1) := by decide +kernel
theorem dX10_part_64 : decode cX10_part 64 = .ok (.aload_n 0, 1) := by decide +kernel
theorem dX10_part_65 : decode cX10_part 65 = .ok (.getfield 114, 3) := by decide +kernel
theorem dX10_part_68 : decode cX10_part 68 = .ok (.istore 4, 2) := by decide +kernel
theorem dX10_part_70 : decode cX10_part 70 = .ok (.iload_n 2, 1) := by decide +kernel
theorem dX10_part_71 : decode cX10_part 71 = .ok (.ifCond .eq 14, 3) := by decide +kernel
theorem dX10_part_74 : decode cX10_part 74 = .ok (.aload_n 0, 1) := by decide +kernel
theorem dX10_part_75 : decode cX10_part 75 = .ok (.invokevirtual 133, 3) := by decide +kernel
theorem dX10_part_78 : decode cX10_part 78 = .ok (.ifCond .eq 7, 3) := by decide +kernel
theorem dX10_part_81 : decode cX10_part 81 = .ok (.iconst 1, 1) := by decide +kernel
theorem dX10_part_82 : decode cX10_part 82 = .ok (.goto 4, 3) := by decide +kernel
theorem dX10_part_85 : decode cX10_part 85 = .ok (.iconst 0, 1) := by decide +kernel
theorem dX10_part_86 : decode cX10_part 86 = .ok (.istore_n 2, 1) := by decide +kernel
theorem dX10_part_87 : decode cX10_part 87 = .ok (.iload_n 2, 1) := by decide +kernel
theorem dX10_part_88 : decode cX10_part 88 = .ok (.ifCond .eq 21, 3) := by decide +kernel
theorem dX10_part_91 : decode cX10_part 91 = .ok (.iload_n 1, 1) := by decide +kernel
theorem dX10_part_92 : decode cX10_part 92 = .ok (.ifCond .eq 17, 3) := by decide +kernel
theorem dX10_part_95 : decode cX10_part 95 = .ok (.aload_n 0, 1) := by decide +kernel
theorem dX10_part_96 : decode cX10_part 96 = .ok (.aload_n 0, 1) := by decide +kernel
theorem dX10_part_97 : decode cX10_part 97 = .ok (.getfield 117, 3) := by decide +kernel
theorem dX10_part_100 : decode cX10_part 100 = .ok (.iload_n 3, 1) := by decide +kernel
theorem dX10_part_101 : decode cX10_part 101 = .ok (.iload 4, 2) := by decide +kernel
theorem dX10_part_103 : decode cX10_part 103 = .ok (.iconst (-1), 1) := by decide +kernel
theorem dX10_part_104 : decode cX10_part 104 = .ok (.iconst (-1), 1) := by decide +kernel
theorem dX10_part_105 : decode cX10_part 105 = .ok (.invokevirtual 86, 3) := by decide +kernel
theorem dX10_part_108 : decode cX10_part 108 = .ok (.pop, 1) := by decide +kernel
theorem dX10_part_109 : decode cX10_part 109 = .ok (.iload_n 2, 1) := by decide +kernel
theorem dX10_part_110 : decode cX10_part 110 = .ok (.ireturn, 1) := by decide +kernel
theorem dX10_part_111 : decode cX10_part 111 = .ok (.aload_n 0, 1) := by decide +kernel
theorem dX10_part_112 : decode cX10_part 112 = .ok (.getfield 137, 3) := by decide +kernel
theorem dX10_part_115 : decode cX10_part 115 = .ok (.bipush 6, 2) := by decide +kernel
theorem dX10_part_117 : decode cX10_part 117 = .ok (.if_icmp .ge 89, 3) := by decide +kernel
theorem dX10_part_120 : decode cX10_part 120 = .ok (.aload_n 0, 1) := by decide +kernel
theorem dX10_part_121 : decode cX10_part 121 = .ok (.bipush 100, 2) := by decide +kernel
theorem dX10_part_123 : decode cX10_part 123 = .ok (.invokevirtual 127, 3) := by decide +kernel
theorem dX10_part_126 : decode cX10_part 126 = .ok (.ifCond .eq 80, 3) := by decide +kernel
theorem dX10_part_129 : decode cX10_part 129 = .ok (.aload_n 0, 1) := by decide +kernel
theorem dX10_part_130 : decode cX10_part 130 = .ok (.dup, 1) := by decide +kernel
theorem dX10_part_131 : decode cX10_part 131 = .ok (.getfield 137, 3) := by decide +kernel
theorem dX10_part_134 : decode cX10_part 134 = .ok (.iconst 1, 1) := by decide +kernel
theorem dX10_part_135 : decode cX10_part 135 = .ok (.iadd, 1) := by decide +kernel
theorem dX10_part_136 : decode cX10_part 136 = .ok (.putfield 137, 3) := by decide +kernel
theorem dX10_part_139 : decode cX10_part 139 = .ok (.aload_n 0, 1) := by decide +kernel
theorem dX10_part_140 : decode cX10_part 140 = .ok (.iconst 0, 1) := by decide +kernel
theorem dX10_part_141 : decode cX10_part 141 = .ok (.aload_n 0, 1) := by decide +kernel
theorem dX10_part_142 : decode cX10_part 142 = .ok (.getfield 130, 3) := by decide +kernel
theorem dX10_part_145 : decode cX10_part 145 = .ok (.iconst 1, 1) := by decide +kernel
theorem dX10_part_146 : decode cX10_part 146 = .ok (.isub, 1) := by decide +kernel
theorem dX10_part_147 : decode cX10_part 147 = .ok (.invokevirtual 120, 3) := by decide +kernel
theorem dX10_part_150 : decode cX10_part 150 = .ok (.istore_n 2, 1) := by decide +kernel
theorem dX10_part_151 : decode cX10_part 151 = .ok (.aload_n 0, 1) := by decide +kernel
theorem dX10_part_152 : decode cX10_part 152 = .ok (.getfield 114, 3) := by decide +kernel
theorem dX10_part_155 : decode cX10_part 155 = .ok (.istore_n 3, 1) := by decide +kernel
theorem dX10_part_156 : decode cX10_part 156 = .ok (.iload_n 2, 1) := by decide +kernel
theorem dX10_part_157 : decode cX10_part 157 = .ok (.ifCond .eq 23, 3) := by decide +kernel
theorem dX10_part_160 : decode cX10_part 160 = .ok (.aload_n 0, 1) := by decide +kernel
theorem dX10_part_161 : decode cX10_part 161 = .ok (.invokevirtual 133, 3) := by decide +kernel
theorem dX10_part_164 : decode cX10_part 164 = .ok (.ifCond .eq 16, 3) := by decide +kernel
theorem dX10_part_167 : decode cX10_part 167 = .ok (.aload_n 0, 1) := by decide +kernel
theorem dX10_part_168 : decode cX10_part 168 = .ok (.iconst 0, 1) := by decide +kernel
theorem dX10_part_169 : decode cX10_part 169 = .ok (.iconst 3, 1) := by decide +kernel
theorem dX10_part_170 : decode cX10_part 170 = .ok (.invokevirtual 120, 3) := by decide +kernel
theorem dX10_part_173 : decode cX10_part 173 = .ok (.ifCond .eq 7, 3) := by decide +kernel
theorem dX10_part_176 : decode cX10_part 176 = .ok (.iconst 1, 1) := by decide +kernel
theorem dX10_part_177 : decode cX10_part 177 = .ok (.goto 4, 3) := by decide +kernel
theorem dX10_part_180 : decode cX10_part 180 = .ok (.iconst 0, 1) := by decide +kernel
theorem dX10_part_181 : decode cX10_part 181 = .ok (.istore_n 2, 1) := by decide +kernel
theorem dX10_part_182 : decode cX10_part 182 = .ok (.iload_n 2, 1) := by decide +kernel
theorem dX10_part_183 : decode cX10_part 183 = .ok (.ifCond .eq 21, 3) := by decide +kernel
theorem dX10_part_186 : decode cX10_part 186 = .ok (.iload_n 1, 1) := by decide +kernel
theorem dX10_part_187 : decode cX10_part 187 = .ok (.ifCond .eq 17, 3) := by decide +kernel
theorem dX10_part_190 : decode cX10_part 190 = .ok (.aload_n 0, 1) := by decide +kernel
theorem dX10_part_191 : decode cX10_part 191 = .ok (.iload_n 3, 1) := by decide +kernel
theorem dX10_part_192 : decode cX10_part 192 = .ok (.aload_n 0, 1) := by decide +kernel
theorem dX10_part_193 : decode cX10_part 193 = .ok (.getfield 117, 3) := by decide +kernel
theorem dX10_part_196 : decode cX10_part 196 = .ok (.aload_n 0, 1) := by decide +kernel
theorem dX10_part_197 : decode cX10_part 197 = .ok (.getfield 114, 3) := by decide +kernel
theorem dX10_part_200 : decode cX10_part 200 = .ok (.invokevirtual 140, 3) := by decide +kernel
theorem dX10_part_203 : decode cX10_part 203 = .ok (.pop, 1) := by decide +kernel
theorem dX10_part_204 : decode cX10_part 204 = .ok (.iload_n 2, 1) := by decide +kernel
theorem dX10_part_205 : decode cX10_part 205 = .ok (.ireturn, 1) := by decide +kernel
theorem dX10_part_206 : decode cX10_part 206 = .ok (.aload_n 0, 1) := by decide +kernel
theorem dX10_part_207 : decode cX10_part 207 = .ok (.bipush 110, 2) := by decide +kernel
theorem dX10_part_209 : decode cX10_part 209 = .ok (.invokevirtual 127, 3) := by decide +kernel
theorem dX10_part_212 : decode cX10_part 212 = .ok (.istore_n 2, 1) := by decide +kernel
theorem dX10_part_213 : decode cX10_part 213 = .ok (.iload_n 2, 1) := by decide +kernel
theorem dX10_part_214 : decode cX10_part 214 = .ok (.ifCond .ne 12, 3) := by decide +kernel
theorem dX10_part_217 : decode cX10_part 217 = .ok (.aload_n 0, 1) := by decide +kernel
theorem dX10_part_218 : decode cX10_part 218 = .ok (.bipush 115, 2) := by decide +kernel
theorem dX10_part_220 : decode cX10_part 220 = .ok (.invokevirtual 127, 3) := by decide +kernel
theorem dX10_part_223 : decode cX10_part 223 = .ok (.ifCond .eq 25, 3) := by decide +kernel
theorem dX10_part_226 : decode cX10_part 226 = .ok (.aload_n 0, 1) := by decide +kernel
theorem dX10_part_227 : decode cX10_part 227 = .ok (.iconst 0, 1) := by decide +kernel
theorem dX10_part_228 : decode cX10_part 228 = .ok (.iload_n 2, 1) := by decide +kernel
theorem dX10_part_229 : decode cX10_part 229 = .ok (.ifCond .eq 7, 3) := by decide +kernel
theorem dX10_part_232 : decode cX10_part 232 = .ok (.iconst 3, 1) := by decide +kernel
theorem dX10_part_233 : decode cX10_part 233 = .ok (.goto 5, 3) := by decide +kernel
theorem dX10_part_236 : decode cX10_part 236 = .ok (.bipush 8, 2) := by decide +kernel
theorem dX10_part_238 : decode cX10_part 238 = .ok (.invokevirtual 120, 3) := by decide +kernel
theorem dX10_part_241 : decode cX10_part 241 = .ok (.ifCond .eq 7, 3) := by decide +kernel
theorem dX10_part_244 : decode cX10_part 244 = .ok (.iconst 1, 1) := by decide +kernel
theorem dX10_part_245 : decode cX10_part 245 = .ok (.goto 4, 3) := by decide +kernel
theorem dX10_part_248 : decode cX10_part 248 = .ok (.iconst 0, 1) := by decide +kernel
theorem dX10_part_249 : decode cX10_part 249 = .ok (.istore_n 3, 1) := by decide +kernel
theorem dX10_part_250 : decode cX10_part 250 = .ok (.iload_n 3, 1) := by decide +kernel
theorem dX10_part_251 : decode cX10_part 251 = .ok (.ifCond .eq 25, 3) := by decide +kernel
theorem dX10_part_254 : decode cX10_part 254 = .ok (.iload_n 1, 1) := by decide +kernel
theorem dX10_part_255 : decode cX10_part 255 = .ok (.ifCond .eq 21, 3) := by decide +kernel
theorem dX10_part_258 : decode cX10_part 258 = .ok (.aload_n 0, 1) := by decide +kernel
theorem dX10_part_259 : decode cX10_part 259 = .ok (.getfield 7, 3) := by decide +kernel
theorem dX10_part_262 : decode cX10_part 262 = .ok (.iload_n 2, 1) := by decide +kernel
theorem dX10_part_263 : decode cX10_part 263 = .ok (.ifCond .eq 7, 3) := by decide +kernel
theorem dX10_part_266 : decode cX10_part 266 = .ok (.iconst 3, 1) := by decide +kernel
theorem dX10_part_267 : decode cX10_part 267 = .ok (.goto 4, 3) := by decide +kernel
theorem dX10_part_270 : decode cX10_part 270 = .ok (.iconst 4, 1) := by decide +kernel
theorem dX10_part_271 : decode cX10_part 271 = .ok (.aload_n 0, 1) := by decide +kernel
theorem dX10_part_272 : decode cX10_part 272 = .ok (.getfield 114, 3) := by decide +kernel
theorem dX10_part_275 : decode cX10_part 275 = .ok (.iastore, 1) := by decide +kernel
theorem dX10_part_276 : decode cX10_part 276 = .ok (.iload_n 3, 1) := by decide +kernel
theorem dX10_part_277 : decode cX10_part 277 = .ok (.ireturn, 1) := by decide +kernel
set_option maxRecDepth 20000 in
theorem ggX10_reads_X10_sign : GoodIn wsX10_reads wsX10_sign := goodIn_r _ [12, 1, 7, 13, 41, 42, 43, 44, 45, 46, 47, 48, 49, 50, 51, 52, 53, 54, 55, 56, 57, 58, 59] (by decide +kernel) (by decide +kernel)
set_option maxRecDepth 20000 in
theorem gX10_reads_X10_sign : GoodIn wsX10_reads (wsV RX10 127 RX10 yX10_sign wsX10_sign) := goodIn_app (goodIn_of _ (by decide +kernel)) ggX10_reads_X10_sign
set_option maxRecDepth 20000 in
theorem ggX10_reads_X10_digitTo : GoodIn wsX10_reads wsX10_digitTo := goodIn_r _ [17, 1, 7, 13, 4, 18, 19, 11, 20, 41, 42, 43, 44, 45, 46, 47, 48, 49, 50, 51, 52, 53, 54, 55, 56, 57, 58, 59] (by decide +kernel) (by decide +kernel)
set_option maxRecDepth 20000 in
theorem gX10_reads_X10_digitTo : GoodIn wsX10_reads (wsV RX10 120 RX10 yX10_digitTo wsX10_digitTo) := goodIn_app (goodIn_of _ (by decide +kernel)) ggX10_reads_X10_digitTo
set_option maxRecDepth 20000 in
theorem ggX10_reads_X10_part : GoodIn wsX10_reads wsX10_part := goodIn_r _ [24, 2, 5, 4, 25, 3, 6, 8, 9, 10, 11, 12, 1, 7, 13, 14, 15, 16, 17, 18, 19, 20, 26, 27, 28, 29, 30, 31, 32, 33, 34, 35, 36, 37, 38, 39, 40, 41, 42, 43, 44, 45, 46, 47, 48, 49, 50, 51, 52, 53, 54, 55, 56, 57, 58, 59] (by decide +kernel) (by decide +kernel)
set_option maxRecDepth 20000 in
theorem gX10_reads_X10_part : GoodIn wsX10_reads (wsV RX10 144 RX10 yX10_part wsX10_part) := goodIn_app (goodIn_of _ (by decide +kernel)) ggX10_reads_X10_part
theorem dX10_reads_0 : decode cX10_reads 0 = .ok (.aload_n 0, 1) := by decide +kernel
theorem dX10_reads_1 : decode cX10_reads 1 = .ok (.iconst 0, 1) := by decide +kernel
theorem dX10_reads_2 : decode cX10_reads 2 = .ok (.putfield 111, 3) := by decide +kernel
theorem dX10_reads_5 : decode cX10_reads 5 = .ok (.aload_n 0, 1) := by decide +kernel
theorem dX10_reads_6 : decode cX10_reads 6 = .ok (.iconst 0, 1) := by decide +kernel
theorem dX10_reads_7 : decode cX10_reads 7 = .ok (.putfield 124, 3) := by decide +kernel
theorem dX10_reads_10 : decode cX10_reads 10 = .ok (.aload_n 0, 1) := by decide +kernel
theorem dX10_reads_11 : decode cX10_reads 11 = .ok (.iconst 0, 1) := by decide +kernel
theorem dX10_reads_12 : decode cX10_reads 12 = .ok (.putfield 137, 3) := by decide +kernel
theorem dX10_reads_15 : decode cX10_reads 15 = .ok (.aload_n 0, 1) := by decide +kernel
theorem dX10_reads_16 : decode cX10_reads 16 = .ok (.bipush 82, 2) := by decide +kernel
theorem dX10_reads_18 : decode cX10_reads 18 = .ok (.invokevirtual 127, 3) := by decide +kernel
theorem dX10_reads_21 : decode cX10_reads 21 = .ok (.ifCond .eq 17, 3) := by decide +kernel
theorem dX10_reads_24 : decode cX10_reads 24 = .ok (.aload_n 0, 1) := by decide +kernel
theorem dX10_reads_25 : decode cX10_reads 25 = .ok (.iconst 2, 1) := by decide +kernel
theorem dX10_reads_26 : decode cX10_reads 26 = .ok (.bipush 9, 2) := by decide +kernel
theorem dX10_reads_28 : decode cX10_reads 28 = .ok (.invokevirtual 120, 3) := by decide +kernel
theorem dX10_reads_31 : decode cX10_reads 31 = .ok (.ifCond .eq 7, 3) := by decide +kernel
theorem dX10_reads_34 : decode cX10_reads 34 = .ok (.iconst 1, 1) := by decide +kernel
theorem dX10_reads_35 : decode cX10_reads 35 = .ok (.goto 4, 3) := by decide +kernel
theorem dX10_reads_38 : decode cX10_reads 38 = .ok (.iconst 0, 1) := by decide +kernel
theorem dX10_reads_39 : decode cX10_reads 39 = .ok (.istore_n 2, 1) := by decide +kernel
theorem dX10_reads_40 : decode cX10_reads 40 = .ok (.aload_n 0, 1) := by decide +kernel
theorem dX10_reads_41 : decode cX10_reads 41 = .ok (.aload_n 0, 1) := by decide +kernel
theorem dX10_reads_42 : decode cX10_reads 42 = .ok (.getfield 114, 3) := by decide +kernel
theorem dX10_reads_45 : decode cX10_reads 45 = .ok (.putfield 130, 3) := by decide +kernel
theorem dX10_reads_48 : decode cX10_reads 48 = .ok (.iload_n 2, 1) := by decide +kernel
theorem dX10_reads_49 : decode cX10_reads 49 = .ok (.ifCond .eq 17, 3) := by decide +kernel
theorem dX10_reads_52 : decode cX10_reads 52 = .ok (.iload_n 1, 1) := by decide +kernel
theorem dX10_reads_53 : decode cX10_reads 53 = .ok (.ifCond .eq 13, 3) := by decide +kernel
theorem dX10_reads_56 : decode cX10_reads 56 = .ok (.aload_n 0, 1) := by decide +kernel
theorem dX10_reads_57 : decode cX10_reads 57 = .ok (.getfield 7, 3) := by decide +kernel
theorem dX10_reads_60 : decode cX10_reads 60 = .ok (.iconst 0, 1) := by decide +kernel
theorem dX10_reads_61 : decode cX10_reads 61 = .ok (.aload_n 0, 1) := by decide +kernel
theorem dX10_reads_62 : decode cX10_reads 62 = .ok (.getfield 130, 3) := by decide +kernel
theorem dX10_reads_65 : decode cX10_reads 65 = .ok (.iastore, 1) := by decide +kernel
theorem dX10_reads_66 : decode cX10_reads 66 = .ok (.iload_n 2, 1) := by decide +kernel
theorem dX10_reads_67 : decode cX10_reads 67 = .ok (.ifCond .eq 23, 3) := by decide +kernel
theorem dX10_reads_70 : decode cX10_reads 70 = .ok (.aload_n 0, 1) := by decide +kernel
theorem dX10_reads_71 : decode cX10_reads 71 = .ok (.getfield 111, 3) := by decide +kernel
theorem dX10_reads_74 : decode cX10_reads 74 = .ok (.aload_n 0, 1) := by decide +kernel
theorem dX10_reads_75 : decode cX10_reads 75 = .ok (.getfield 108, 3) := by decide +kernel
theorem dX10_reads_78 : decode cX10_reads 78 = .ok (.if_icmp .ge 12, 3) := by decide +kernel
theorem dX10_reads_81 : decode cX10_reads 81 = .ok (.aload_n 0, 1) := by decide +kernel
theorem dX10_reads_82 : decode cX10_reads 82 = .ok (.iload_n 1, 1) := by decide +kernel
theorem dX10_reads_83 : decode cX10_reads 83 = .ok (.invokevirtual 144, 3) := by decide +kernel
theorem dX10_reads_86 : decode cX10_reads 86 = .ok (.istore_n 2, 1) := by decide +kernel
theorem dX10_reads_87 : decode cX10_reads 87 = .ok (.goto (-21), 3) := by decide +kernel
theorem dX10_reads_90 : decode cX10_reads 90 = .ok (.iload_n 2, 1) := by decide +kernel
theorem dX10_reads_91 : decode cX10_reads 91 = .ok (.ireturn, 1) := by decide +kernel
set_option maxRecDepth 20000 in
theorem ggX10_errorPosition_X10_reads : GoodIn wsX10_errorPosition wsX10_reads := goodIn_r _ [7, 2, 8, 9, 10, 11, 12, 13, 14, 15, 16, 6, 17, 18, 19, 20, 21, 22, 23, 24, 25, 26, 27, 28, 29, 30, 31, 32, 33, 34, 35, 36, 37, 38, 39, 40, 41, 42, 43, 44, 45, 46, 47, 48, 49, 50, 51, 52, 53, 54, 55, 56, 57, 58, 59, 60, 61, 62, 63, 64] (by decide +kernel) (by decide +kernel)
set_option maxRecDepth 20000 in
theorem gX10_errorPosition_X10_reads : GoodIn wsX10_errorPosition (wsV RX10 148 RX10 yX10_reads wsX10_reads) := goodIn_app (goodIn_of _ (by decide +kernel)) ggX10_errorPosition_X10_reads
theorem dX10_errorPosition_0 : decode cX10_errorPosition 0 = .ok (.aload_n 0, 1) := by decide +kernel
theorem dX10_errorPosition_1 : decode cX10_errorPosition 1 = .ok (.iconst 0, 1) := by decide +kernel
theorem dX10_errorPosition_2 : decode cX10_errorPosition 2 = .ok (.putfield 39, 3) := by decide +kernel
theorem dX10_errorPosition_5 : decode cX10_errorPosition 5 = .ok (.aload_n 0, 1) := by decide +kernel
theorem dX10_errorPosition_6 : decode cX10_errorPosition 6 = .ok (.iconst 0, 1) := by decide +kernel
theorem dX10_errorPosition_7 : decode cX10_errorPosition 7 = .ok (.invokevirtual 148, 3) := by decide +kernel
theorem dX10_errorPosition_10 : decode cX10_errorPosition 10 = .ok (.ifCond .eq 8, 3) := by decide +kernel
theorem dX10_errorPosition_13 : decode cX10_errorPosition 13 = .ok (.bipush (-9), 2) := by decide +kernel
theorem dX10_errorPosition_15 : decode cX10_errorPosition 15 = .ok (.goto 7, 3) := by decide +kernel
theorem dX10_errorPosition_18 : decode cX10_errorPosition 18 = .ok (.aload_n 0, 1) := by decide +kernel
theorem dX10_errorPosition_19 : decode cX10_errorPosition 19 = .ok (.getfield 111, 3) := by decide +kernel
theorem dX10_errorPosition_22 : decode cX10_errorPosition 22 = .ok (.ireturn, 1) := by decide +kernel
set_option maxRecDepth 20000 in
theorem ggX10_load_X10_reads : GoodIn wsX10_load wsX10_reads := goodIn_r _ [9, 10, 11, 12, 13, 14, 4, 15, 16, 17, 18, 8, 19, 20, 21, 22, 23, 24, 25, 26, 27, 28, 29, 30, 31, 32, 33, 34, 35, 36, 37, 38, 39, 40, 41, 42, 43, 44, 45, 46, 47, 59, 60, 61, 62, 63, 64, 65, 66, 67, 68, 69, 70, 71, 72, 73, 74, 75, 76, 77] (by decide +kernel) (by decide +kernel)
set_option maxRecDepth 20000 in
theorem gX10_load_X10_reads : GoodIn wsX10_load (wsV RX10 148 RX10 yX10_reads wsX10_reads) := goodIn_app (goodIn_of _ (by decide +kernel)) ggX10_load_X10_reads
set_option maxRecDepth 20000 in
theorem ggX10_load_X10_fails : GoodIn wsX10_load wsX10_fails := goodIn_r _ [51, 1, 59, 60, 61, 62, 63, 64, 65, 66, 67, 68, 69, 70, 71, 72, 73, 74, 75, 76, 77] (by decide +kernel) (by decide +kernel)
set_option maxRecDepth 20000 in
theorem gX10_load_X10_fails : GoodIn wsX10_load (wsV RX10 105 RX10 yX10_fails wsX10_fails) := goodIn_app (goodIn_of _ (by decide +kernel)) ggX10_load_X10_fails
set_option maxRecDepth 20000 in
theorem ggX10_load_X10_anew : GoodIn wsX10_load wsX10_anew := goodIn_r _ [55, 4, 56, 57, 58, 25, 26, 8, 27, 59, 60, 61, 62, 63, 64, 65, 66, 67, 68, 69, 70, 71, 72, 73, 74, 75, 76, 77] (by decide +kernel) (by decide +kernel)
set_option maxRecDepth 20000 in
theorem gX10_load_X10_anew : GoodIn wsX10_load (wsV RX10 36 RX10 yX10_anew wsX10_anew) := goodIn_app (goodIn_of _ (by decide +kernel)) ggX10_load_X10_anew
theorem dX10_load_0 : decode cX10_load 0 = .ok (.aload_n 0, 1) := by decide +kernel
theorem dX10_load_1 : decode cX10_load 1 = .ok (.iconst 0, 1) := by decide +kernel
theorem dX10_load_2 : decode cX10_load 2 = .ok (.putfield 39, 3) := by decide +kernel
theorem dX10_load_5 : decode cX10_load 5 = .ok (.aload_n 0, 1) := by decide +kernel
theorem dX10_load_6 : decode cX10_load 6 = .ok (.iconst 0, 1) := by decide +kernel
theorem dX10_load_7 : decode cX10_load 7 = .ok (.invokevirtual 148, 3) := by decide +kernel
theorem dX10_load_10 : decode cX10_load 10 = .ok (.ifCond .ne 9, 3) := by decide +kernel
theorem dX10_load_13 : decode cX10_load 13 = .ok (.aload_n 0, 1) := by decide +kernel
theorem dX10_load_14 : decode cX10_load 14 = .ok (.iconst 1, 1) := by decide +kernel
theorem dX10_load_15 : decode cX10_load 15 = .ok (.invokevirtual 105, 3) := by decide +kernel
theorem dX10_load_18 : decode cX10_load 18 = .ok (.ireturn, 1) := by decide +kernel
theorem dX10_load_19 : decode cX10_load 19 = .ok (.aload_n 0, 1) := by decide +kernel
theorem dX10_load_20 : decode cX10_load 20 = .ok (.invokevirtual 36, 3) := by decide +kernel
theorem dX10_load_23 : decode cX10_load 23 = .ok (.aload_n 0, 1) := by decide +kernel
theorem dX10_load_24 : decode cX10_load 24 = .ok (.iconst 1, 1) := by decide +kernel
theorem dX10_load_25 : decode cX10_load 25 = .ok (.invokevirtual 148, 3) := by decide +kernel
theorem dX10_load_28 : decode cX10_load 28 = .ok (.pop, 1) := by decide +kernel
theorem dX10_load_29 : decode cX10_load 29 = .ok (.aload_n 0, 1) := by decide +kernel
theorem dX10_load_30 : decode cX10_load 30 = .ok (.iconst 0, 1) := by decide +kernel
theorem dX10_load_31 : decode cX10_load 31 = .ok (.putfield 58, 3) := by decide +kernel
theorem dX10_load_34 : decode cX10_load 34 = .ok (.aload_n 0, 1) := by decide +kernel
theorem dX10_load_35 : decode cX10_load 35 = .ok (.getfield 29, 3) := by decide +kernel
theorem dX10_load_38 : decode cX10_load 38 = .ok (.iconst 0, 1) := by decide +kernel
theorem dX10_load_39 : decode cX10_load 39 = .ok (.iconst 0, 1) := by decide +kernel
theorem dX10_load_40 : decode cX10_load 40 = .ok (.bastore, 1) := by decide +kernel
theorem dX10_load_41 : decode cX10_load 41 = .ok (.aload_n 0, 1) := by decide +kernel
theorem dX10_load_42 : decode cX10_load 42 = .ok (.getfield 29, 3) := by decide +kernel
theorem dX10_load_45 : decode cX10_load 45 = .ok (.iconst 1, 1) := by decide +kernel
theorem dX10_load_46 : decode cX10_load 46 = .ok (.iconst 0, 1) := by decide +kernel
theorem dX10_load_47 : decode cX10_load 47 = .ok (.bastore, 1) := by decide +kernel
theorem dX10_load_48 : decode cX10_load 48 = .ok (.aload_n 0, 1) := by decide +kernel
theorem dX10_load_49 : decode cX10_load 49 = .ok (.getfield 7, 3) := by decide +kernel
theorem dX10_load_52 : decode cX10_load 52 = .ok (.iconst 2, 1) := by decide +kernel
theorem dX10_load_53 : decode cX10_load 53 = .ok (.iaload, 1) := by decide +kernel
theorem dX10_load_54 : decode cX10_load 54 = .ok (.ireturn, 1) := by decide +kernel
set_option maxRecDepth 20000 in
theorem ggX10_rootMany_X10_rootOf : GoodIn wsX10_rootMany wsX10_rootOf := goodIn_r _ [6, 7, 8, 9, 5, 10, 1, 11, 12, 13, 14, 15, 16, 17, 18, 19, 20, 21, 22, 23, 24, 25, 26, 27, 28, 29] (by decide +kernel) (by decide +kernel)
set_option maxRecDepth 20000 in
theorem gX10_rootMany_X10_rootOf : GoodIn wsX10_rootMany (wsV RX10 151 RX10 yX10_rootOf wsX10_rootOf) := goodIn_app (goodIn_of _ (by decide +kernel)) ggX10_rootMany_X10_rootOf
theorem dX10_rootMany_0 : decode cX10_rootMany 0 = .ok (.iconst 0, 1) := by decide +kernel
theorem dX10_rootMany_1 : decode cX10_rootMany 1 = .ok (.istore_n 1, 1) := by decide +kernel
theorem dX10_rootMany_2 : decode cX10_rootMany 2 = .ok (.iconst 0, 1) := by decide +kernel
theorem dX10_rootMany_3 : decode cX10_rootMany 3 = .ok (.istore_n 2, 1) := by decide +kernel
theorem dX10_rootMany_4 : decode cX10_rootMany 4 = .ok (.iload_n 2, 1) := by decide +kernel
theorem dX10_rootMany_5 : decode cX10_rootMany 5 = .ok (.aload_n 0, 1) := by decide +kernel
theorem dX10_rootMany_6 : decode cX10_rootMany 6 = .ok (.getfield 7, 3) := by decide +kernel
theorem dX10_rootMany_9 : decode cX10_rootMany 9 = .ok (.iconst 2, 1) := by decide +kernel
theorem dX10_rootMany_10 : decode cX10_rootMany 10 = .ok (.iaload, 1) := by decide +kernel
theorem dX10_rootMany_11 : decode cX10_rootMany 11 = .ok (.if_icmp .ge 85, 3) := by decide +kernel
theorem dX10_rootMany_14 : decode cX10_rootMany 14 = .ok (.iconst 0, 1) := by decide +kernel
theorem dX10_rootMany_15 : decode cX10_rootMany 15 = .ok (.istore_n 3, 1) := by decide +kernel
theorem dX10_rootMany_16 : decode cX10_rootMany 16 = .ok (.iconst 0, 1) := by decide +kernel
theorem dX10_rootMany_17 : decode cX10_rootMany 17 = .ok (.istore 4, 2) := by decide +kernel
theorem dX10_rootMany_19 : decode cX10_rootMany 19 = .ok (.iload 4, 2) := by decide +kernel
theorem dX10_rootMany_21 : decode cX10_rootMany 21 = .ok (.bipush 6, 2) := by decide +kernel
theorem dX10_rootMany_23 : decode cX10_rootMany 23 = .ok (.aload_n 0, 1) := by decide +kernel
theorem dX10_rootMany_24 : decode cX10_rootMany 24 = .ok (.getfield 7, 3) := by decide +kernel
theorem dX10_rootMany_27 : decode cX10_rootMany 27 = .ok (.iconst 0, 1) := by decide +kernel
theorem dX10_rootMany_28 : decode cX10_rootMany 28 = .ok (.iaload, 1) := by decide +kernel
theorem dX10_rootMany_29 : decode cX10_rootMany 29 = .ok (.imul, 1) := by decide +kernel
theorem dX10_rootMany_30 : decode cX10_rootMany 30 = .ok (.if_icmp .ge 48, 3) := by decide +kernel
theorem dX10_rootMany_33 : decode cX10_rootMany 33 = .ok (.iload_n 3, 1) := by decide +kernel
theorem dX10_rootMany_34 : decode cX10_rootMany 34 = .ok (.ifCond .ne 32, 3) := by decide +kernel
theorem dX10_rootMany_37 : decode cX10_rootMany 37 = .ok (.aload_n 0, 1) := by decide +kernel
theorem dX10_rootMany_38 : decode cX10_rootMany 38 = .ok (.getfield 7, 3) := by decide +kernel
theorem dX10_rootMany_41 : decode cX10_rootMany 41 = .ok (.iconst 5, 1) := by decide +kernel
theorem dX10_rootMany_42 : decode cX10_rootMany 42 = .ok (.iload 4, 2) := by decide +kernel
theorem dX10_rootMany_44 : decode cX10_rootMany 44 = .ok (.iadd, 1) := by decide +kernel
theorem dX10_rootMany_45 : decode cX10_rootMany 45 = .ok (.iaload, 1) := by decide +kernel
theorem dX10_rootMany_46 : decode cX10_rootMany 46 = .ok (.ifCond .lt 24, 3) := by decide +kernel
theorem dX10_rootMany_49 : decode cX10_rootMany 49 = .ok (.aload_n 0, 1) := by decide +kernel
theorem dX10_rootMany_50 : decode cX10_rootMany 50 = .ok (.aload_n 0, 1) := by decide +kernel
theorem dX10_rootMany_51 : decode cX10_rootMany 51 = .ok (.getfield 7, 3) := by decide +kernel
theorem dX10_rootMany_54 : decode cX10_rootMany 54 = .ok (.iconst 5, 1) := by decide +kernel
theorem dX10_rootMany_55 : decode cX10_rootMany 55 = .ok (.iload 4, 2) := by decide +kernel
theorem dX10_rootMany_57 : decode cX10_rootMany 57 = .ok (.iadd, 1) := by decide +kernel
theorem dX10_rootMany_58 : decode cX10_rootMany 58 = .ok (.iaload, 1) := by decide +kernel
theorem dX10_rootMany_59 : decode cX10_rootMany 59 = .ok (.invokevirtual 151, 3) := by decide +kernel
theorem dX10_rootMany_62 : decode cX10_rootMany 62 = .ok (.iload_n 2, 1) := by decide +kernel
theorem dX10_rootMany_63 : decode cX10_rootMany 63 = .ok (.if_icmp .ne 7, 3) := by decide +kernel
theorem dX10_rootMany_66 : decode cX10_rootMany 66 = .ok (.iconst 1, 1) := by decide +kernel
theorem dX10_rootMany_67 : decode cX10_rootMany 67 = .ok (.goto 4, 3) := by decide +kernel
theorem dX10_rootMany_70 : decode cX10_rootMany 70 = .ok (.iconst 0, 1) := by decide +kernel
theorem dX10_rootMany_71 : decode cX10_rootMany 71 = .ok (.istore_n 3, 1) := by decide +kernel
theorem dX10_rootMany_72 : decode cX10_rootMany 72 = .ok (.iinc 4 1, 3) := by decide +kernel
theorem dX10_rootMany_75 : decode cX10_rootMany 75 = .ok (.goto (-56), 3) := by decide +kernel
theorem dX10_rootMany_78 : decode cX10_rootMany 78 = .ok (.iload_n 1, 1) := by decide +kernel
theorem dX10_rootMany_79 : decode cX10_rootMany 79 = .ok (.iload_n 3, 1) := by decide +kernel
theorem dX10_rootMany_80 : decode cX10_rootMany 80 = .ok (.ifCond .eq 7, 3) := by decide +kernel
theorem dX10_rootMany_83 : decode cX10_rootMany 83 = .ok (.iconst 1, 1) := by decide +kernel
theorem dX10_rootMany_84 : decode cX10_rootMany 84 = .ok (.goto 4, 3) := by decide +kernel
theorem dX10_rootMany_87 : decode cX10_rootMany 87 = .ok (.iconst 0, 1) := by decide +kernel
theorem dX10_rootMany_88 : decode cX10_rootMany 88 = .ok (.iadd, 1) := by decide +kernel
theorem dX10_rootMany_89 : decode cX10_rootMany 89 = .ok (.istore_n 1, 1) := by decide +kernel
theorem dX10_rootMany_90 : decode cX10_rootMany 90 = .ok (.iinc 2 1, 3) := by decide +kernel
theorem dX10_rootMany_93 : decode cX10_rootMany 93 = .ok (.goto (-89), 3) := by decide +kernel
theorem dX10_rootMany_96 : decode cX10_rootMany 96 = .ok (.iload_n 1, 1) := by decide +kernel
theorem dX10_rootMany_97 : decode cX10_rootMany 97 = .ok (.ireturn, 1) := by decide +kernel
set_option maxRecDepth 20000 in
theorem ggX10_about_X10_of : GoodIn wsX10_about wsX10_of := goodIn_r _ [7, 2, 28, 29, 30, 31, 32, 33, 34, 35, 36, 37, 38, 39, 40, 41, 42, 43, 44, 45, 46] (by decide +kernel) (by decide +kernel)
set_option maxRecDepth 20000 in
theorem gX10_about_X10_of : GoodIn wsX10_about (wsV RX10 65 RX10 yX10_of wsX10_of) := goodIn_app (goodIn_of _ (by decide +kernel)) ggX10_about_X10_of
set_option maxRecDepth 20000 in
theorem ggX10_about_X10_generation : GoodIn wsX10_about wsX10_generation := goodIn_r _ [11, 3, 4, 5, 6, 7, 2, 28, 29, 30, 31, 32, 33, 34, 35, 36, 37, 38, 39, 40, 41, 42, 43, 44, 45, 46] (by decide +kernel) (by decide +kernel)
set_option maxRecDepth 20000 in
theorem gX10_about_X10_generation : GoodIn wsX10_about (wsV RX10 154 RX10 yX10_generation wsX10_generation) := goodIn_app (goodIn_of _ (by decide +kernel)) ggX10_about_X10_generation
set_option maxRecDepth 20000 in
theorem ggX10_about_X10_ofDevice : GoodIn wsX10_about wsX10_ofDevice := goodIn_r _ [15, 2, 28, 29, 30, 31, 32, 33, 34, 35, 36, 37, 38, 39, 40, 41, 42, 43, 44, 45, 46] (by decide +kernel) (by decide +kernel)
set_option maxRecDepth 20000 in
theorem gX10_about_X10_ofDevice : GoodIn wsX10_about (wsV RX10 90 RX10 yX10_ofDevice wsX10_ofDevice) := goodIn_app (goodIn_of _ (by decide +kernel)) ggX10_about_X10_ofDevice
set_option maxRecDepth 20000 in
theorem ggX10_about_X10_rootMany : GoodIn wsX10_about wsX10_rootMany := goodIn_r _ [19, 2, 20, 21, 22, 6, 23, 3, 4, 5, 7, 28, 29, 30, 31, 32, 33, 34, 35, 36, 37, 38, 39, 40, 41, 42, 43, 44, 45, 46] (by decide +kernel) (by decide +kernel)
set_option maxRecDepth 20000 in
theorem gX10_about_X10_rootMany : GoodIn wsX10_about (wsV RX10 157 RX10 yX10_rootMany wsX10_rootMany) := goodIn_app (goodIn_of _ (by decide +kernel)) ggX10_about_X10_rootMany
set_option maxRecDepth 20000 in
theorem ggX10_about_X10_fails : GoodIn wsX10_about wsX10_fails := goodIn_r _ [27, 1, 28, 29, 30, 31, 32, 33, 34, 35, 36, 37, 38, 39, 40, 41, 42, 43, 44, 45, 46] (by decide +kernel) (by decide +kernel)
set_option maxRecDepth 20000 in
theorem gX10_about_X10_fails : GoodIn wsX10_about (wsV RX10 105 RX10 yX10_fails wsX10_fails) := goodIn_app (goodIn_of _ (by decide +kernel)) ggX10_about_X10_fails
theorem dX10_about_0 : decode cX10_about 0 = .ok (.aload_n 0, 1) := by decide +kernel
theorem dX10_about_1 : decode cX10_about 1 = .ok (.iconst 0, 1) := by decide +kernel
theorem dX10_about_2 : decode cX10_about 2 = .ok (.putfield 39, 3) := by decide +kernel
theorem dX10_about_5 : decode cX10_about 5 = .ok (.iconst 0, 1) := by decide +kernel
theorem dX10_about_6 : decode cX10_about 6 = .ok (.istore_n 2, 1) := by decide +kernel
theorem dX10_about_7 : decode cX10_about 7 = .ok (.iconst 0, 1) := by decide +kernel
theorem dX10_about_8 : decode cX10_about 8 = .ok (.istore_n 3, 1) := by decide +kernel
theorem dX10_about_9 : decode cX10_about 9 = .ok (.bipush (-9), 2) := by decide +kernel
theorem dX10_about_11 : decode cX10_about 11 = .ok (.istore 4, 2) := by decide +kernel
theorem dX10_about_13 : decode cX10_about 13 = .ok (.iconst 0, 1) := by decide +kernel
theorem dX10_about_14 : decode cX10_about 14 = .ok (.istore 5, 2) := by decide +kernel
theorem dX10_about_16 : decode cX10_about 16 = .ok (.iload 5, 2) := by decide +kernel
theorem dX10_about_18 : decode cX10_about 18 = .ok (.aload_n 0, 1) := by decide +kernel
theorem dX10_about_19 : decode cX10_about 19 = .ok (.getfield 7, 3) := by decide +kernel
theorem dX10_about_22 : decode cX10_about 22 = .ok (.iconst 2, 1) := by decide +kernel
theorem dX10_about_23 : decode cX10_about 23 = .ok (.iaload, 1) := by decide +kernel
theorem dX10_about_24 : decode cX10_about 24 = .ok (.if_icmp .ge 69, 3) := by decide +kernel
theorem dX10_about_27 : decode cX10_about 27 = .ok (.iload_n 2, 1) := by decide +kernel
theorem dX10_about_28 : decode cX10_about 28 = .ok (.aload_n 0, 1) := by decide +kernel
theorem dX10_about_29 : decode cX10_about 29 = .ok (.iload 5, 2) := by decide +kernel
theorem dX10_about_31 : decode cX10_about 31 = .ok (.iconst 3, 1) := by decide +kernel
theorem dX10_about_32 : decode cX10_about 32 = .ok (.invokevirtual 65, 3) := by decide +kernel
theorem dX10_about_35 : decode cX10_about 35 = .ok (.ifCond .lt 7, 3) := by decide +kernel
theorem dX10_about_38 : decode cX10_about 38 = .ok (.iconst 1, 1) := by decide +kernel
theorem dX10_about_39 : decode cX10_about 39 = .ok (.goto 4, 3) := by decide +kernel
theorem dX10_about_42 : decode cX10_about 42 = .ok (.iconst 0, 1) := by decide +kernel
theorem dX10_about_43 : decode cX10_about 43 = .ok (.iadd, 1) := by decide +kernel
theorem dX10_about_44 : decode cX10_about 44 = .ok (.istore_n 2, 1) := by decide +kernel
theorem dX10_about_45 : decode cX10_about 45 = .ok (.iload_n 3, 1) := by decide +kernel
theorem dX10_about_46 : decode cX10_about 46 = .ok (.aload_n 0, 1) := by decide +kernel
theorem dX10_about_47 : decode cX10_about 47 = .ok (.iload 5, 2) := by decide +kernel
theorem dX10_about_49 : decode cX10_about 49 = .ok (.iconst 4, 1) := by decide +kernel
theorem dX10_about_50 : decode cX10_about 50 = .ok (.invokevirtual 65, 3) := by decide +kernel
theorem dX10_about_53 : decode cX10_about 53 = .ok (.ifCond .lt 7, 3) := by decide +kernel
theorem dX10_about_56 : decode cX10_about 56 = .ok (.iconst 1, 1) := by decide +kernel
theorem dX10_about_57 : decode cX10_about 57 = .ok (.goto 4, 3) := by decide +kernel
theorem dX10_about_60 : decode cX10_about 60 = .ok (.iconst 0, 1) := by decide +kernel
theorem dX10_about_61 : decode cX10_about 61 = .ok (.iadd, 1) := by decide +kernel
theorem dX10_about_62 : decode cX10_about 62 = .ok (.istore_n 3, 1) := by decide +kernel
theorem dX10_about_63 : decode cX10_about 63 = .ok (.aload_n 0, 1) := by decide +kernel
theorem dX10_about_64 : decode cX10_about 64 = .ok (.iload 5, 2) := by decide +kernel
theorem dX10_about_66 : decode cX10_about 66 = .ok (.invokevirtual 154, 3) := by decide +kernel
theorem dX10_about_69 : decode cX10_about 69 = .ok (.iload 4, 2) := by decide +kernel
theorem dX10_about_71 : decode cX10_about 71 = .ok (.if_icmp .le 12, 3) := by decide +kernel
theorem dX10_about_74 : decode cX10_about 74 = .ok (.aload_n 0, 1) := by decide +kernel
theorem dX10_about_75 : decode cX10_about 75 = .ok (.iload 5, 2) := by decide +kernel
theorem dX10_about_77 : decode cX10_about 77 = .ok (.invokevirtual 154, 3) := by decide +kernel
theorem dX10_about_80 : decode cX10_about 80 = .ok (.goto 5, 3) := by decide +kernel
theorem dX10_about_83 : decode cX10_about 83 = .ok (.iload 4, 2) := by decide +kernel
theorem dX10_about_85 : decode cX10_about 85 = .ok (.istore 4, 2) := by decide +kernel
theorem dX10_about_87 : decode cX10_about 87 = .ok (.iinc 5 1, 3) := by decide +kernel
theorem dX10_about_90 : decode cX10_about 90 = .ok (.goto (-74), 3) := by decide +kernel
theorem dX10_about_93 : decode cX10_about 93 = .ok (.iconst 0, 1) := by decide +kernel
theorem dX10_about_94 : decode cX10_about 94 = .ok (.istore 5, 2) := by decide +kernel
theorem dX10_about_96 : decode cX10_about 96 = .ok (.iconst 0, 1) := by decide +kernel
theorem dX10_about_97 : decode cX10_about 97 = .ok (.istore 6, 2) := by decide +kernel
theorem dX10_about_99 : decode cX10_about 99 = .ok (.iload 6, 2) := by decide +kernel
theorem dX10_about_101 : decode cX10_about 101 = .ok (.aload_n 0, 1) := by decide +kernel
theorem dX10_about_102 : decode cX10_about 102 = .ok (.getfield 7, 3) := by decide +kernel
theorem dX10_about_105 : decode cX10_about 105 = .ok (.iconst 1, 1) := by decide +kernel
theorem dX10_about_106 : decode cX10_about 106 = .ok (.iaload, 1) := by decide +kernel
theorem dX10_about_107 : decode cX10_about 107 = .ok (.if_icmp .ge 24, 3) := by decide +kernel
theorem dX10_about_110 : decode cX10_about 110 = .ok (.iload 5, 2) := by decide +kernel
theorem dX10_about_112 : decode cX10_about 112 = .ok (.aload_n 0, 1) := by decide +kernel
theorem dX10_about_113 : decode cX10_about 113 = .ok (.iload 6, 2) := by decide +kernel
theorem dX10_about_115 : decode cX10_about 115 = .ok (.iconst 3, 1) := by decide +kernel
theorem dX10_about_116 : decode cX10_about 116 = .ok (.invokevirtual 90, 3) := by decide +kernel
theorem dX10_about_119 : decode cX10_about 119 = .ok (.iload 6, 2) := by decide +kernel
theorem dX10_about_121 : decode cX10_about 121 = .ok (.ishl, 1) := by decide +kernel
theorem dX10_about_122 : decode cX10_about 122 = .ok (.ior, 1) := by decide +kernel
theorem dX10_about_123 : decode cX10_about 123 = .ok (.istore 5, 2) := by decide +kernel
theorem dX10_about_125 : decode cX10_about 125 = .ok (.iinc 6 1, 3) := by decide +kernel
theorem dX10_about_128 : decode cX10_about 128 = .ok (.goto (-29), 3) := by decide +kernel
theorem dX10_about_131 : decode cX10_about 131 = .ok (.iload_n 1, 1) := by decide +kernel
theorem dX10_about_132 : decode cX10_about 132 = .ok (.tableswitch 78 0 9 #[56, 56, 56, 56, 56, 63, 65, 67, 70, 75], 56) := by decide +kernel
theorem dX10_about_188 : decode cX10_about 188 = .ok (.aload_n 0, 1) := by decide +kernel
theorem dX10_about_189 : decode cX10_about 189 = .ok (.getfield 7, 3) := by decide +kernel
theorem dX10_about_192 : decode cX10_about 192 = .ok (.iload_n 1, 1) := by decide +kernel
theorem dX10_about_193 : decode cX10_about 193 = .ok (.iaload, 1) := by decide +kernel
theorem dX10_about_194 : decode cX10_about 194 = .ok (.ireturn, 1) := by decide +kernel
theorem dX10_about_195 : decode cX10_about 195 = .ok (.iload_n 2, 1) := by decide +kernel
theorem dX10_about_196 : decode cX10_about 196 = .ok (.ireturn, 1) := by decide +kernel
theorem dX10_about_197 : decode cX10_about 197 = .ok (.iload_n 3, 1) := by decide +kernel
theorem dX10_about_198 : decode cX10_about 198 = .ok (.ireturn, 1) := by decide +kernel
theorem dX10_about_199 : decode cX10_about 199 = .ok (.iload 5, 2) := by decide +kernel
theorem dX10_about_201 : decode cX10_about 201 = .ok (.ireturn, 1) := by decide +kernel
theorem dX10_about_202 : decode cX10_about 202 = .ok (.aload_n 0, 1) := by decide +kernel
theorem dX10_about_203 : decode cX10_about 203 = .ok (.invokevirtual 157, 3) := by decide +kernel
theorem dX10_about_206 : decode cX10_about 206 = .ok (.ireturn, 1) := by decide +kernel
theorem dX10_about_207 : decode cX10_about 207 = .ok (.iload 4, 2) := by decide +kernel
theorem dX10_about_209 : decode cX10_about 209 = .ok (.ireturn, 1) := by decide +kernel
theorem dX10_about_210 : decode cX10_about 210 = .ok (.aload_n 0, 1) := by decide +kernel
theorem dX10_about_211 : decode cX10_about 211 = .ok (.iconst 1, 1) := by decide +kernel
theorem dX10_about_212 : decode cX10_about 212 = .ok (.invokevirtual 105, 3) := by decide +kernel
theorem dX10_about_215 : decode cX10_about 215 = .ok (.ireturn, 1) := by decide +kernel
set_option maxRecDepth 20000 in
theorem ggX10_key_X10_isKey : GoodIn wsX10_key wsX10_isKey := goodIn_r _ [8, 2, 9, 10, 11, 7, 12, 3, 13, 14, 15, 42, 43, 44, 45, 46, 47, 48, 49, 50, 51, 52, 53, 54, 55, 56, 57, 58, 59, 60] (by decide +kernel) (by decide +kernel)
set_option maxRecDepth 20000 in
theorem gX10_key_X10_isKey : GoodIn wsX10_key (wsV RX10 161 RX10 yX10_isKey wsX10_isKey) := goodIn_app (goodIn_of _ (by decide +kernel)) ggX10_key_X10_isKey
set_option maxRecDepth 20000 in
theorem ggX10_key_X10_fails : GoodIn wsX10_key wsX10_fails := goodIn_r _ [19, 1, 42, 43, 44, 45, 46, 47, 48, 49, 50, 51, 52, 53, 54, 55, 56, 57, 58, 59, 60] (by decide +kernel) (by decide +kernel)
set_option maxRecDepth 20000 in
theorem gX10_key_X10_fails : GoodIn wsX10_key (wsV RX10 105 RX10 yX10_fails wsX10_fails) := goodIn_app (goodIn_of _ (by decide +kernel)) ggX10_key_X10_fails
set_option maxRecDepth 20000 in
theorem ggX10_key_X10_in : GoodIn wsX10_key wsX10_in := goodIn_r _ [15] (by decide +kernel) (by decide +kernel)
set_option maxRecDepth 20000 in
theorem gX10_key_X10_in : GoodIn wsX10_key (va_wsS RX10 47 yX10_in wsX10_in) := goodIn_app (goodIn_of _ (by decide +kernel)) ggX10_key_X10_in
set_option maxRecDepth 20000 in
theorem ggX10_key_X10_keyAt : GoodIn wsX10_key wsX10_keyAt := goodIn_r _ [22] (by decide +kernel) (by decide +kernel)
set_option maxRecDepth 20000 in
theorem gX10_key_X10_keyAt : GoodIn wsX10_key (va_wsS RX10 69 yX10_keyAt wsX10_keyAt) := goodIn_app (goodIn_of _ (by decide +kernel)) ggX10_key_X10_keyAt
set_option maxRecDepth 20000 in
theorem ggX10_key_X10_of : GoodIn wsX10_key wsX10_of := goodIn_r _ [26, 3, 42, 43, 44, 45, 46, 47, 48, 49, 50, 51, 52, 53, 54, 55, 56, 57, 58, 59, 60] (by decide +kernel) (by decide +kernel)
set_option maxRecDepth 20000 in
theorem gX10_key_X10_of : GoodIn wsX10_key (wsV RX10 65 RX10 yX10_of wsX10_of) := goodIn_app (goodIn_of _ (by decide +kernel)) ggX10_key_X10_of
set_option maxRecDepth 20000 in
theorem ggX10_key_X10_generation : GoodIn wsX10_key wsX10_generation := goodIn_r _ [30, 23, 24, 25, 7, 26, 3, 42, 43, 44, 45, 46, 47, 48, 49, 50, 51, 52, 53, 54, 55, 56, 57, 58, 59, 60] (by decide +kernel) (by decide +kernel)
set_option maxRecDepth 20000 in
theorem gX10_key_X10_generation : GoodIn wsX10_key (wsV RX10 154 RX10 yX10_generation wsX10_generation) := goodIn_app (goodIn_of _ (by decide +kernel)) ggX10_key_X10_generation
set_option maxRecDepth 20000 in
theorem ggX10_key_X10_rootOf : GoodIn wsX10_key wsX10_rootOf := goodIn_r _ [34, 23, 24, 25, 7, 26, 3, 42, 43, 44, 45, 46, 47, 48, 49, 50, 51, 52, 53, 54, 55, 56, 57, 58, 59, 60] (by decide +kernel) (by decide +kernel)
set_option maxRecDepth 20000 in
theorem gX10_key_X10_rootOf : GoodIn wsX10_key (wsV RX10 151 RX10 yX10_rootOf wsX10_rootOf) := goodIn_app (goodIn_of _ (by decide +kernel)) ggX10_key_X10_rootOf
set_option maxRecDepth 20000 in
theorem ggX10_key_X10_wrongBits : GoodIn wsX10_key wsX10_wrongBits := goodIn_r _ [38, 23, 24, 25, 7, 26, 3, 42, 43, 44, 45, 46, 47, 48, 49, 50, 51, 52, 53, 54, 55, 56, 57, 58, 59, 60] (by decide +kernel) (by decide +kernel)
set_option maxRecDepth 20000 in
theorem gX10_key_X10_wrongBits : GoodIn wsX10_key (wsV RX10 164 RX10 yX10_wrongBits wsX10_wrongBits) := goodIn_app (goodIn_of _ (by decide +kernel)) ggX10_key_X10_wrongBits
set_option maxRecDepth 20000 in
theorem ggX10_key_X10_apart : GoodIn wsX10_key wsX10_apart := goodIn_r _ [41] (by decide +kernel) (by decide +kernel)
set_option maxRecDepth 20000 in
theorem gX10_key_X10_apart : GoodIn wsX10_key (va_wsS RX10 93 yX10_apart wsX10_apart) := goodIn_app (goodIn_of _ (by decide +kernel)) ggX10_key_X10_apart
theorem dX10_key_0 : decode cX10_key 0 = .ok (.aload_n 0, 1) := by decide +kernel
theorem dX10_key_1 : decode cX10_key 1 = .ok (.iconst 0, 1) := by decide +kernel
theorem dX10_key_2 : decode cX10_key 2 = .ok (.putfield 39, 3) := by decide +kernel
theorem dX10_key_5 : decode cX10_key 5 = .ok (.aload_n 0, 1) := by decide +kernel
theorem dX10_key_6 : decode cX10_key 6 = .ok (.iload_n 1, 1) := by decide +kernel
theorem dX10_key_7 : decode cX10_key 7 = .ok (.iload_n 2, 1) := by decide +kernel
theorem dX10_key_8 : decode cX10_key 8 = .ok (.invokevirtual 161, 3) := by decide +kernel
theorem dX10_key_11 : decode cX10_key 11 = .ok (.ifCond .ne 9, 3) := by decide +kernel
theorem dX10_key_14 : decode cX10_key 14 = .ok (.aload_n 0, 1) := by decide +kernel
theorem dX10_key_15 : decode cX10_key 15 = .ok (.iconst 1, 1) := by decide +kernel
theorem dX10_key_16 : decode cX10_key 16 = .ok (.invokevirtual 105, 3) := by decide +kernel
theorem dX10_key_19 : decode cX10_key 19 = .ok (.ireturn, 1) := by decide +kernel
theorem dX10_key_20 : decode cX10_key 20 = .ok (.iload_n 3, 1) := by decide +kernel
theorem dX10_key_21 : decode cX10_key 21 = .ok (.i2l, 1) := by decide +kernel
theorem dX10_key_22 : decode cX10_key 22 = .ok (.lconst 0, 1) := by decide +kernel
theorem dX10_key_23 : decode cX10_key 23 = .ok (.ldc2_w 43, 3) := by decide +kernel
theorem dX10_key_26 : decode cX10_key 26 = .ok (.invokestatic 47, 3) := by decide +kernel
theorem dX10_key_29 : decode cX10_key 29 = .ok (.ifCond .ne 9, 3) := by decide +kernel
theorem dX10_key_32 : decode cX10_key 32 = .ok (.aload_n 0, 1) := by decide +kernel
theorem dX10_key_33 : decode cX10_key 33 = .ok (.iconst 2, 1) := by decide +kernel
theorem dX10_key_34 : decode cX10_key 34 = .ok (.invokevirtual 105, 3) := by decide +kernel
theorem dX10_key_37 : decode cX10_key 37 = .ok (.ireturn, 1) := by decide +kernel
theorem dX10_key_38 : decode cX10_key 38 = .ok (.aload_n 0, 1) := by decide +kernel
theorem dX10_key_39 : decode cX10_key 39 = .ok (.getfield 7, 3) := by decide +kernel
theorem dX10_key_42 : decode cX10_key 42 = .ok (.iload_n 1, 1) := by decide +kernel
theorem dX10_key_43 : decode cX10_key 43 = .ok (.iload_n 2, 1) := by decide +kernel
theorem dX10_key_44 : decode cX10_key 44 = .ok (.invokestatic 69, 3) := by decide +kernel
theorem dX10_key_47 : decode cX10_key 47 = .ok (.iaload, 1) := by decide +kernel
theorem dX10_key_48 : decode cX10_key 48 = .ok (.istore 4, 2) := by decide +kernel
theorem dX10_key_50 : decode cX10_key 50 = .ok (.iload 4, 2) := by decide +kernel
theorem dX10_key_52 : decode cX10_key 52 = .ok (.ifCond .ge 6, 3) := by decide +kernel
theorem dX10_key_55 : decode cX10_key 55 = .ok (.bipush (-9), 2) := by decide +kernel
theorem dX10_key_57 : decode cX10_key 57 = .ok (.ireturn, 1) := by decide +kernel
theorem dX10_key_58 : decode cX10_key 58 = .ok (.iload_n 3, 1) := by decide +kernel
theorem dX10_key_59 : decode cX10_key 59 = .ok (.tableswitch 70 0 4 #[33, 41, 44, 51, 63], 33) := by decide +kernel
theorem dX10_key_92 : decode cX10_key 92 = .ok (.aload_n 0, 1) := by decide +kernel
theorem dX10_key_93 : decode cX10_key 93 = .ok (.iload 4, 2) := by decide +kernel
theorem dX10_key_95 : decode cX10_key 95 = .ok (.iconst 0, 1) := by decide +kernel
theorem dX10_key_96 : decode cX10_key 96 = .ok (.invokevirtual 65, 3) := by decide +kernel
theorem dX10_key_99 : decode cX10_key 99 = .ok (.ireturn, 1) := by decide +kernel
theorem dX10_key_100 : decode cX10_key 100 = .ok (.iload 4, 2) := by decide +kernel
theorem dX10_key_102 : decode cX10_key 102 = .ok (.ireturn, 1) := by decide +kernel
theorem dX10_key_103 : decode cX10_key 103 = .ok (.aload_n 0, 1) := by decide +kernel
theorem dX10_key_104 : decode cX10_key 104 = .ok (.iload 4, 2) := by decide +kernel
theorem dX10_key_106 : decode cX10_key 106 = .ok (.invokevirtual 154, 3) := by decide +kernel
theorem dX10_key_109 : decode cX10_key 109 = .ok (.ireturn, 1) := by decide +kernel
theorem dX10_key_110 : decode cX10_key 110 = .ok (.aload_n 0, 1) := by decide +kernel
theorem dX10_key_111 : decode cX10_key 111 = .ok (.aload_n 0, 1) := by decide +kernel
theorem dX10_key_112 : decode cX10_key 112 = .ok (.iload 4, 2) := by decide +kernel
theorem dX10_key_114 : decode cX10_key 114 = .ok (.invokevirtual 151, 3) := by decide +kernel
theorem dX10_key_117 : decode cX10_key 117 = .ok (.iconst 1, 1) := by decide +kernel
theorem dX10_key_118 : decode cX10_key 118 = .ok (.invokevirtual 65, 3) := by decide +kernel
theorem dX10_key_121 : decode cX10_key 121 = .ok (.ireturn, 1) := by decide +kernel
theorem dX10_key_122 : decode cX10_key 122 = .ok (.aload_n 0, 1) := by decide +kernel
theorem dX10_key_123 : decode cX10_key 123 = .ok (.iload 4, 2) := by decide +kernel
theorem dX10_key_125 : decode cX10_key 125 = .ok (.invokevirtual 164, 3) := by decide +kernel
theorem dX10_key_128 : decode cX10_key 128 = .ok (.ireturn, 1) := by decide +kernel
theorem dX10_key_129 : decode cX10_key 129 = .ok (.aload_n 0, 1) := by decide +kernel
theorem dX10_key_130 : decode cX10_key 130 = .ok (.iload 4, 2) := by decide +kernel
theorem dX10_key_132 : decode cX10_key 132 = .ok (.iconst 0, 1) := by decide +kernel
theorem dX10_key_133 : decode cX10_key 133 = .ok (.invokevirtual 65, 3) := by decide +kernel
theorem dX10_key_136 : decode cX10_key 136 = .ok (.aload_n 0, 1) := by decide +kernel
theorem dX10_key_137 : decode cX10_key 137 = .ok (.aload_n 0, 1) := by decide +kernel
theorem dX10_key_138 : decode cX10_key 138 = .ok (.iload 4, 2) := by decide +kernel
theorem dX10_key_140 : decode cX10_key 140 = .ok (.invokevirtual 151, 3) := by decide +kernel
theorem dX10_key_143 : decode cX10_key 143 = .ok (.iconst 0, 1) := by decide +kernel
theorem dX10_key_144 : decode cX10_key 144 = .ok (.invokevirtual 65, 3) := by decide +kernel
theorem dX10_key_147 : decode cX10_key 147 = .ok (.invokestatic 93, 3) := by decide +kernel
theorem dX10_key_150 : decode cX10_key 150 = .ok (.ireturn, 1) := by decide +kernel
theorem dX10_orNone_0 : decode cX10_orNone 0 = .ok (.iload_n 0, 1) := by decide +kernel
theorem dX10_orNone_1 : decode cX10_orNone 1 = .ok (.ifCond .ge 8, 3) := by decide +kernel
theorem dX10_orNone_4 : decode cX10_orNone 4 = .ok (.bipush (-9), 2) := by decide +kernel
theorem dX10_orNone_6 : decode cX10_orNone 6 = .ok (.goto 4, 3) := by decide +kernel
theorem dX10_orNone_9 : decode cX10_orNone 9 = .ok (.iload_n 0, 1) := by decide +kernel
theorem dX10_orNone_10 : decode cX10_orNone 10 = .ok (.ireturn, 1) := by decide +kernel
set_option maxRecDepth 20000 in
theorem ggX10_record_X10_isRecord : GoodIn wsX10_record wsX10_isRecord := goodIn_r _ [8, 3, 9, 10, 7, 11, 27, 28, 29, 30, 31, 32, 33, 34, 35, 36, 37, 38, 39, 40, 41, 42, 43, 44, 45] (by decide +kernel) (by decide +kernel)
set_option maxRecDepth 20000 in
theorem gX10_record_X10_isRecord : GoodIn wsX10_record (wsV RX10 167 RX10 yX10_isRecord wsX10_isRecord) := goodIn_app (goodIn_of _ (by decide +kernel)) ggX10_record_X10_isRecord
set_option maxRecDepth 20000 in
theorem ggX10_record_X10_fails : GoodIn wsX10_record wsX10_fails := goodIn_r _ [15, 1, 27, 28, 29, 30, 31, 32, 33, 34, 35, 36, 37, 38, 39, 40, 41, 42, 43, 44, 45] (by decide +kernel) (by decide +kernel)
set_option maxRecDepth 20000 in
theorem gX10_record_X10_fails : GoodIn wsX10_record (wsV RX10 105 RX10 yX10_fails wsX10_fails) := goodIn_app (goodIn_of _ (by decide +kernel)) ggX10_record_X10_fails
set_option maxRecDepth 20000 in
theorem ggX10_record_X10_in : GoodIn wsX10_record wsX10_in := goodIn_r _ [11] (by decide +kernel) (by decide +kernel)
set_option maxRecDepth 20000 in
theorem gX10_record_X10_in : GoodIn wsX10_record (va_wsS RX10 47 yX10_in wsX10_in) := goodIn_app (goodIn_of _ (by decide +kernel)) ggX10_record_X10_in
set_option maxRecDepth 20000 in
theorem ggX10_record_X10_of : GoodIn wsX10_record wsX10_of := goodIn_r _ [19, 3, 27, 28, 29, 30, 31, 32, 33, 34, 35, 36, 37, 38, 39, 40, 41, 42, 43, 44, 45] (by decide +kernel) (by decide +kernel)
set_option maxRecDepth 20000 in
theorem gX10_record_X10_of : GoodIn wsX10_record (wsV RX10 65 RX10 yX10_of wsX10_of) := goodIn_app (goodIn_of _ (by decide +kernel)) ggX10_record_X10_of
set_option maxRecDepth 20000 in
theorem ggX10_record_X10_isInChain : GoodIn wsX10_record wsX10_isInChain := goodIn_r _ [23, 16, 17, 18, 7, 19, 3, 27, 28, 29, 30, 31, 32, 33, 34, 35, 36, 37, 38, 39, 40, 41, 42, 43, 44, 45] (by decide +kernel) (by decide +kernel)
set_option maxRecDepth 20000 in
theorem gX10_record_X10_isInChain : GoodIn wsX10_record (wsV RX10 172 RX10 yX10_isInChain wsX10_isInChain) := goodIn_app (goodIn_of _ (by decide +kernel)) ggX10_record_X10_isInChain
set_option maxRecDepth 20000 in
theorem ggX10_record_X10_orNone : GoodIn wsX10_record wsX10_orNone := goodIn_r _ [26] (by decide +kernel) (by decide +kernel)
set_option maxRecDepth 20000 in
theorem gX10_record_X10_orNone : GoodIn wsX10_record (va_wsS RX10 175 yX10_orNone wsX10_orNone) := goodIn_app (goodIn_of _ (by decide +kernel)) ggX10_record_X10_orNone
theorem dX10_record_0 : decode cX10_record 0 = .ok (.aload_n 0, 1) := by decide +kernel
theorem dX10_record_1 : decode cX10_record 1 = .ok (.iconst 0, 1) := by decide +kernel
theorem dX10_record_2 : decode cX10_record 2 = .ok (.putfield 39, 3) := by decide +kernel
theorem dX10_record_5 : decode cX10_record 5 = .ok (.aload_n 0, 1) := by decide +kernel
theorem dX10_record_6 : decode cX10_record 6 = .ok (.iload_n 1, 1) := by decide +kernel
theorem dX10_record_7 : decode cX10_record 7 = .ok (.invokevirtual 167, 3) := by decide +kernel
theorem dX10_record_10 : decode cX10_record 10 = .ok (.ifCond .ne 9, 3) := by decide +kernel
theorem dX10_record_13 : decode cX10_record 13 = .ok (.aload_n 0, 1) := by decide +kernel
theorem dX10_record_14 : decode cX10_record 14 = .ok (.iconst 1, 1) := by decide +kernel
theorem dX10_record_15 : decode cX10_record 15 = .ok (.invokevirtual 105, 3) := by decide +kernel
theorem dX10_record_18 : decode cX10_record 18 = .ok (.ireturn, 1) := by decide +kernel
theorem dX10_record_19 : decode cX10_record 19 = .ok (.iload_n 2, 1) := by decide +kernel
theorem dX10_record_20 : decode cX10_record 20 = .ok (.i2l, 1) := by decide +kernel
theorem dX10_record_21 : decode cX10_record 21 = .ok (.lconst 0, 1) := by decide +kernel
theorem dX10_record_22 : decode cX10_record 22 = .ok (.ldc2_w 170, 3) := by decide +kernel
theorem dX10_record_25 : decode cX10_record 25 = .ok (.invokestatic 47, 3) := by decide +kernel
theorem dX10_record_28 : decode cX10_record 28 = .ok (.ifCond .ne 9, 3) := by decide +kernel
theorem dX10_record_31 : decode cX10_record 31 = .ok (.aload_n 0, 1) := by decide +kernel
theorem dX10_record_32 : decode cX10_record 32 = .ok (.iconst 2, 1) := by decide +kernel
theorem dX10_record_33 : decode cX10_record 33 = .ok (.invokevirtual 105, 3) := by decide +kernel
theorem dX10_record_36 : decode cX10_record 36 = .ok (.ireturn, 1) := by decide +kernel
theorem dX10_record_37 : decode cX10_record 37 = .ok (.iconst 0, 1) := by decide +kernel
theorem dX10_record_38 : decode cX10_record 38 = .ok (.istore_n 3, 1) := by decide +kernel
theorem dX10_record_39 : decode cX10_record 39 = .ok (.iconst 0, 1) := by decide +kernel
theorem dX10_record_40 : decode cX10_record 40 = .ok (.istore 4, 2) := by decide +kernel
theorem dX10_record_42 : decode cX10_record 42 = .ok (.iload 4, 2) := by decide +kernel
theorem dX10_record_44 : decode cX10_record 44 = .ok (.aload_n 0, 1) := by decide +kernel
theorem dX10_record_45 : decode cX10_record 45 = .ok (.getfield 7, 3) := by decide +kernel
theorem dX10_record_48 : decode cX10_record 48 = .ok (.iconst 2, 1) := by decide +kernel
theorem dX10_record_49 : decode cX10_record 49 = .ok (.iaload, 1) := by decide +kernel
theorem dX10_record_50 : decode cX10_record 50 = .ok (.if_icmp .ge 28, 3) := by decide +kernel
theorem dX10_record_53 : decode cX10_record 53 = .ok (.iload_n 3, 1) := by decide +kernel
theorem dX10_record_54 : decode cX10_record 54 = .ok (.aload_n 0, 1) := by decide +kernel
theorem dX10_record_55 : decode cX10_record 55 = .ok (.iload 4, 2) := by decide +kernel
theorem dX10_record_57 : decode cX10_record 57 = .ok (.iconst 3, 1) := by decide +kernel
theorem dX10_record_58 : decode cX10_record 58 = .ok (.invokevirtual 65, 3) := by decide +kernel
theorem dX10_record_61 : decode cX10_record 61 = .ok (.iload_n 1, 1) := by decide +kernel
theorem dX10_record_62 : decode cX10_record 62 = .ok (.if_icmp .ne 7, 3) := by decide +kernel
theorem dX10_record_65 : decode cX10_record 65 = .ok (.iconst 1, 1) := by decide +kernel
theorem dX10_record_66 : decode cX10_record 66 = .ok (.goto 4, 3) := by decide +kernel
theorem dX10_record_69 : decode cX10_record 69 = .ok (.iconst 0, 1) := by decide +kernel
theorem dX10_record_70 : decode cX10_record 70 = .ok (.iadd, 1) := by decide +kernel
theorem dX10_record_71 : decode cX10_record 71 = .ok (.istore_n 3, 1) := by decide +kernel
theorem dX10_record_72 : decode cX10_record 72 = .ok (.iinc 4 1, 3) := by decide +kernel
theorem dX10_record_75 : decode cX10_record 75 = .ok (.goto (-33), 3) := by decide +kernel
theorem dX10_record_78 : decode cX10_record 78 = .ok (.iconst 0, 1) := by decide +kernel
theorem dX10_record_79 : decode cX10_record 79 = .ok (.istore 4, 2) := by decide +kernel
theorem dX10_record_81 : decode cX10_record 81 = .ok (.iconst 0, 1) := by decide +kernel
theorem dX10_record_82 : decode cX10_record 82 = .ok (.istore 5, 2) := by decide +kernel
theorem dX10_record_84 : decode cX10_record 84 = .ok (.iload 5, 2) := by decide +kernel
theorem dX10_record_86 : decode cX10_record 86 = .ok (.bipush 6, 2) := by decide +kernel
theorem dX10_record_88 : decode cX10_record 88 = .ok (.aload_n 0, 1) := by decide +kernel
theorem dX10_record_89 : decode cX10_record 89 = .ok (.getfield 7, 3) := by decide +kernel
theorem dX10_record_92 : decode cX10_record 92 = .ok (.iconst 0, 1) := by decide +kernel
theorem dX10_record_93 : decode cX10_record 93 = .ok (.iaload, 1) := by decide +kernel
theorem dX10_record_94 : decode cX10_record 94 = .ok (.imul, 1) := by decide +kernel
theorem dX10_record_95 : decode cX10_record 95 = .ok (.if_icmp .ge 48, 3) := by decide +kernel
theorem dX10_record_98 : decode cX10_record 98 = .ok (.iload 4, 2) := by decide +kernel
theorem dX10_record_100 : decode cX10_record 100 = .ok (.aload_n 0, 1) := by decide +kernel
theorem dX10_record_101 : decode cX10_record 101 = .ok (.getfield 7, 3) := by decide +kernel
theorem dX10_record_104 : decode cX10_record 104 = .ok (.iconst 5, 1) := by decide +kernel
theorem dX10_record_105 : decode cX10_record 105 = .ok (.iload 5, 2) := by decide +kernel
theorem dX10_record_107 : decode cX10_record 107 = .ok (.iadd, 1) := by decide +kernel
theorem dX10_record_108 : decode cX10_record 108 = .ok (.iaload, 1) := by decide +kernel
theorem dX10_record_109 : decode cX10_record 109 = .ok (.ifCond .lt 24, 3) := by decide +kernel
theorem dX10_record_112 : decode cX10_record 112 = .ok (.aload_n 0, 1) := by decide +kernel
theorem dX10_record_113 : decode cX10_record 113 = .ok (.iload_n 1, 1) := by decide +kernel
theorem dX10_record_114 : decode cX10_record 114 = .ok (.aload_n 0, 1) := by decide +kernel
theorem dX10_record_115 : decode cX10_record 115 = .ok (.getfield 7, 3) := by decide +kernel
theorem dX10_record_118 : decode cX10_record 118 = .ok (.iconst 5, 1) := by decide +kernel
theorem dX10_record_119 : decode cX10_record 119 = .ok (.iload 5, 2) := by decide +kernel
theorem dX10_record_121 : decode cX10_record 121 = .ok (.iadd, 1) := by decide +kernel
theorem dX10_record_122 : decode cX10_record 122 = .ok (.iaload, 1) := by decide +kernel
theorem dX10_record_123 : decode cX10_record 123 = .ok (.invokevirtual 172, 3) := by decide +kernel
theorem dX10_record_126 : decode cX10_record 126 = .ok (.ifCond .eq 7, 3) := by decide +kernel
theorem dX10_record_129 : decode cX10_record 129 = .ok (.iconst 1, 1) := by decide +kernel
theorem dX10_record_130 : decode cX10_record 130 = .ok (.goto 4, 3) := by decide +kernel
theorem dX10_record_133 : decode cX10_record 133 = .ok (.iconst 0, 1) := by decide +kernel
theorem dX10_record_134 : decode cX10_record 134 = .ok (.iadd, 1) := by decide +kernel
theorem dX10_record_135 : decode cX10_record 135 = .ok (.istore 4, 2) := by decide +kernel
theorem dX10_record_137 : decode cX10_record 137 = .ok (.iinc 5 1, 3) := by decide +kernel
theorem dX10_record_140 : decode cX10_record 140 = .ok (.goto (-56), 3) := by decide +kernel
theorem dX10_record_143 : decode cX10_record 143 = .ok (.iload_n 2, 1) := by decide +kernel
theorem dX10_record_144 : decode cX10_record 144 = .ok (.tableswitch 83 0 5 #[40, 50, 57, 64, 71, 81], 40) := by decide +kernel
theorem dX10_record_184 : decode cX10_record 184 = .ok (.aload_n 0, 1) := by decide +kernel
theorem dX10_record_185 : decode cX10_record 185 = .ok (.iload_n 1, 1) := by decide +kernel
theorem dX10_record_186 : decode cX10_record 186 = .ok (.iconst 3, 1) := by decide +kernel
theorem dX10_record_187 : decode cX10_record 187 = .ok (.invokevirtual 65, 3) := by decide +kernel
theorem dX10_record_190 : decode cX10_record 190 = .ok (.invokestatic 175, 3) := by decide +kernel
theorem dX10_record_193 : decode cX10_record 193 = .ok (.ireturn, 1) := by decide +kernel
theorem dX10_record_194 : decode cX10_record 194 = .ok (.aload_n 0, 1) := by decide +kernel
theorem dX10_record_195 : decode cX10_record 195 = .ok (.iload_n 1, 1) := by decide +kernel
theorem dX10_record_196 : decode cX10_record 196 = .ok (.iconst 1, 1) := by decide +kernel
theorem dX10_record_197 : decode cX10_record 197 = .ok (.invokevirtual 65, 3) := by decide +kernel
theorem dX10_record_200 : decode cX10_record 200 = .ok (.ireturn, 1) := by decide +kernel
theorem dX10_record_201 : decode cX10_record 201 = .ok (.aload_n 0, 1) := by decide +kernel
theorem dX10_record_202 : decode cX10_record 202 = .ok (.iload_n 1, 1) := by decide +kernel
theorem dX10_record_203 : decode cX10_record 203 = .ok (.iconst 2, 1) := by decide +kernel
theorem dX10_record_204 : decode cX10_record 204 = .ok (.invokevirtual 65, 3) := by decide +kernel
theorem dX10_record_207 : decode cX10_record 207 = .ok (.ireturn, 1) := by decide +kernel
theorem dX10_record_208 : decode cX10_record 208 = .ok (.aload_n 0, 1) := by decide +kernel
theorem dX10_record_209 : decode cX10_record 209 = .ok (.iload_n 1, 1) := by decide +kernel
theorem dX10_record_210 : decode cX10_record 210 = .ok (.iconst 0, 1) := by decide +kernel
theorem dX10_record_211 : decode cX10_record 211 = .ok (.invokevirtual 65, 3) := by decide +kernel
theorem dX10_record_214 : decode cX10_record 214 = .ok (.ireturn, 1) := by decide +kernel
theorem dX10_record_215 : decode cX10_record 215 = .ok (.aload_n 0, 1) := by decide +kernel
theorem dX10_record_216 : decode cX10_record 216 = .ok (.iload_n 1, 1) := by decide +kernel
theorem dX10_record_217 : decode cX10_record 217 = .ok (.iconst 4, 1) := by decide +kernel
theorem dX10_record_218 : decode cX10_record 218 = .ok (.invokevirtual 65, 3) := by decide +kernel
theorem dX10_record_221 : decode cX10_record 221 = .ok (.invokestatic 175, 3) := by decide +kernel
theorem dX10_record_224 : decode cX10_record 224 = .ok (.ireturn, 1) := by decide +kernel
theorem dX10_record_225 : decode cX10_record 225 = .ok (.iload_n 3, 1) := by decide +kernel
theorem dX10_record_226 : decode cX10_record 226 = .ok (.ireturn, 1) := by decide +kernel
theorem dX10_record_227 : decode cX10_record 227 = .ok (.iload 4, 2) := by decide +kernel
theorem dX10_record_229 : decode cX10_record 229 = .ok (.ireturn, 1) := by decide +kernel
set_option maxRecDepth 20000 in
theorem ggX10_device_X10_isDevice : GoodIn wsX10_device wsX10_isDevice := goodIn_r _ [8, 3, 9, 10, 7, 11, 34, 35, 36, 37, 38, 39, 40, 41, 42, 43, 44, 45, 46, 47, 48, 49, 50, 51, 52] (by decide +kernel) (by decide +kernel)
set_option maxRecDepth 20000 in
theorem gX10_device_X10_isDevice : GoodIn wsX10_device (wsV RX10 178 RX10 yX10_isDevice wsX10_isDevice) := goodIn_app (goodIn_of _ (by decide +kernel)) ggX10_device_X10_isDevice
set_option maxRecDepth 20000 in
theorem ggX10_device_X10_fails : GoodIn wsX10_device wsX10_fails := goodIn_r _ [15, 1, 34, 35, 36, 37, 38, 39, 40, 41, 42, 43, 44, 45, 46, 47, 48, 49, 50, 51, 52] (by decide +kernel) (by decide +kernel)
set_option maxRecDepth 20000 in
theorem gX10_device_X10_fails : GoodIn wsX10_device (wsV RX10 105 RX10 yX10_fails wsX10_fails) := goodIn_app (goodIn_of _ (by decide +kernel)) ggX10_device_X10_fails
set_option maxRecDepth 20000 in
theorem ggX10_device_X10_in : GoodIn wsX10_device wsX10_in := goodIn_r _ [11] (by decide +kernel) (by decide +kernel)
set_option maxRecDepth 20000 in
theorem gX10_device_X10_in : GoodIn wsX10_device (va_wsS RX10 47 yX10_in wsX10_in) := goodIn_app (goodIn_of _ (by decide +kernel)) ggX10_device_X10_in
set_option maxRecDepth 20000 in
theorem ggX10_device_X10_of : GoodIn wsX10_device wsX10_of := goodIn_r _ [19, 3, 34, 35, 36, 37, 38, 39, 40, 41, 42, 43, 44, 45, 46, 47, 48, 49, 50, 51, 52] (by decide +kernel) (by decide +kernel)
set_option maxRecDepth 20000 in
theorem gX10_device_X10_of : GoodIn wsX10_device (wsV RX10 65 RX10 yX10_of wsX10_of) := goodIn_app (goodIn_of _ (by decide +kernel)) ggX10_device_X10_of
set_option maxRecDepth 20000 in
theorem ggX10_device_X10_accepts : GoodIn wsX10_device wsX10_accepts := goodIn_r _ [23, 24, 25, 26, 7, 27, 3, 28, 29, 30, 31, 32, 33, 34, 35, 36, 37, 38, 39, 40, 41, 42, 43, 44, 45, 46, 47, 48, 49, 50, 51, 52] (by decide +kernel) (by decide +kernel)
set_option maxRecDepth 20000 in
theorem gX10_device_X10_accepts : GoodIn wsX10_device (wsV RX10 96 RX10 yX10_accepts wsX10_accepts) := goodIn_app (goodIn_of _ (by decide +kernel)) ggX10_device_X10_accepts
set_option maxRecDepth 20000 in
theorem ggX10_device_X10_ofDevice : GoodIn wsX10_device wsX10_ofDevice := goodIn_r _ [27, 3, 34, 35, 36, 37, 38, 39, 40, 41, 42, 43, 44, 45, 46, 47, 48, 49, 50, 51, 52] (by decide +kernel) (by decide +kernel)
set_option maxRecDepth 20000 in
theorem gX10_device_X10_ofDevice : GoodIn wsX10_device (wsV RX10 90 RX10 yX10_ofDevice wsX10_ofDevice) := goodIn_app (goodIn_of _ (by decide +kernel)) ggX10_device_X10_ofDevice
theorem dX10_device_0 : decode cX10_device 0 = .ok (.aload_n 0, 1) := by decide +kernel
theorem dX10_device_1 : decode cX10_device 1 = .ok (.iconst 0, 1) := by decide +kernel
theorem dX10_device_2 : decode cX10_device 2 = .ok (.putfield 39, 3) := by decide +kernel
theorem dX10_device_5 : decode cX10_device 5 = .ok (.aload_n 0, 1) := by decide +kernel
theorem dX10_device_6 : decode cX10_device 6 = .ok (.iload_n 1, 1) := by decide +kernel
theorem dX10_device_7 : decode cX10_device 7 = .ok (.invokevirtual 178, 3) := by decide +kernel
theorem dX10_device_10 : decode cX10_device 10 = .ok (.ifCond .ne 9, 3) := by decide +kernel
theorem dX10_device_13 : decode cX10_device 13 = .ok (.aload_n 0, 1) := by decide +kernel
theorem dX10_device_14 : decode cX10_device 14 = .ok (.iconst 1, 1) := by decide +kernel
theorem dX10_device_15 : decode cX10_device 15 = .ok (.invokevirtual 105, 3) := by decide +kernel
theorem dX10_device_18 : decode cX10_device 18 = .ok (.ireturn, 1) := by decide +kernel
theorem dX10_device_19 : decode cX10_device 19 = .ok (.iload_n 2, 1) := by decide +kernel
theorem dX10_device_20 : decode cX10_device 20 = .ok (.i2l, 1) := by decide +kernel
theorem dX10_device_21 : decode cX10_device 21 = .ok (.lconst 0, 1) := by decide +kernel
theorem dX10_device_22 : decode cX10_device 22 = .ok (.ldc2_w 181, 3) := by decide +kernel
theorem dX10_device_25 : decode cX10_device 25 = .ok (.invokestatic 47, 3) := by decide +kernel
theorem dX10_device_28 : decode cX10_device 28 = .ok (.ifCond .ne 9, 3) := by decide +kernel
theorem dX10_device_31 : decode cX10_device 31 = .ok (.aload_n 0, 1) := by decide +kernel
theorem dX10_device_32 : decode cX10_device 32 = .ok (.iconst 2, 1) := by decide +kernel
theorem dX10_device_33 : decode cX10_device 33 = .ok (.invokevirtual 105, 3) := by decide +kernel
theorem dX10_device_36 : decode cX10_device 36 = .ok (.ireturn, 1) := by decide +kernel
theorem dX10_device_37 : decode cX10_device 37 = .ok (.iconst 0, 1) := by decide +kernel
theorem dX10_device_38 : decode cX10_device 38 = .ok (.istore_n 3, 1) := by decide +kernel
theorem dX10_device_39 : decode cX10_device 39 = .ok (.iconst 0, 1) := by decide +kernel
theorem dX10_device_40 : decode cX10_device 40 = .ok (.istore 4, 2) := by decide +kernel
theorem dX10_device_42 : decode cX10_device 42 = .ok (.iload 4, 2) := by decide +kernel
theorem dX10_device_44 : decode cX10_device 44 = .ok (.bipush 6, 2) := by decide +kernel
theorem dX10_device_46 : decode cX10_device 46 = .ok (.aload_n 0, 1) := by decide +kernel
theorem dX10_device_47 : decode cX10_device 47 = .ok (.getfield 7, 3) := by decide +kernel
theorem dX10_device_50 : decode cX10_device 50 = .ok (.iconst 0, 1) := by decide +kernel
theorem dX10_device_51 : decode cX10_device 51 = .ok (.iaload, 1) := by decide +kernel
theorem dX10_device_52 : decode cX10_device 52 = .ok (.imul, 1) := by decide +kernel
theorem dX10_device_53 : decode cX10_device 53 = .ok (.if_icmp .ge 58, 3) := by decide +kernel
theorem dX10_device_56 : decode cX10_device 56 = .ok (.iload_n 3, 1) := by decide +kernel
theorem dX10_device_57 : decode cX10_device 57 = .ok (.aload_n 0, 1) := by decide +kernel
theorem dX10_device_58 : decode cX10_device 58 = .ok (.getfield 7, 3) := by decide +kernel
theorem dX10_device_61 : decode cX10_device 61 = .ok (.iconst 5, 1) := by decide +kernel
theorem dX10_device_62 : decode cX10_device 62 = .ok (.iload 4, 2) := by decide +kernel
theorem dX10_device_64 : decode cX10_device 64 = .ok (.iadd, 1) := by decide +kernel
theorem dX10_device_65 : decode cX10_device 65 = .ok (.iaload, 1) := by decide +kernel
theorem dX10_device_66 : decode cX10_device 66 = .ok (.ifCond .lt 36, 3) := by decide +kernel
theorem dX10_device_69 : decode cX10_device 69 = .ok (.aload_n 0, 1) := by decide +kernel
theorem dX10_device_70 : decode cX10_device 70 = .ok (.iload_n 1, 1) := by decide +kernel
theorem dX10_device_71 : decode cX10_device 71 = .ok (.aload_n 0, 1) := by decide +kernel
theorem dX10_device_72 : decode cX10_device 72 = .ok (.aload_n 0, 1) := by decide +kernel
theorem dX10_device_73 : decode cX10_device 73 = .ok (.getfield 7, 3) := by decide +kernel
theorem dX10_device_76 : decode cX10_device 76 = .ok (.iconst 5, 1) := by decide +kernel
theorem dX10_device_77 : decode cX10_device 77 = .ok (.iload 4, 2) := by decide +kernel
theorem dX10_device_79 : decode cX10_device 79 = .ok (.iadd, 1) := by decide +kernel
theorem dX10_device_80 : decode cX10_device 80 = .ok (.iaload, 1) := by decide +kernel
theorem dX10_device_81 : decode cX10_device 81 = .ok (.iconst 0, 1) := by decide +kernel
theorem dX10_device_82 : decode cX10_device 82 = .ok (.invokevirtual 65, 3) := by decide +kernel
theorem dX10_device_85 : decode cX10_device 85 = .ok (.iload 4, 2) := by decide +kernel
theorem dX10_device_87 : decode cX10_device 87 = .ok (.bipush 6, 2) := by decide +kernel
theorem dX10_device_89 : decode cX10_device 89 = .ok (.idiv, 1) := by decide +kernel
theorem dX10_device_90 : decode cX10_device 90 = .ok (.bipush 8, 2) := by decide +kernel
theorem dX10_device_92 : decode cX10_device 92 = .ok (.invokevirtual 96, 3) := by decide +kernel
theorem dX10_device_95 : decode cX10_device 95 = .ok (.ifCond .eq 7, 3) := by decide +kernel
theorem dX10_device_98 : decode cX10_device 98 = .ok (.iconst 1, 1) := by decide +kernel
theorem dX10_device_99 : decode cX10_device 99 = .ok (.goto 4, 3) := by decide +kernel
theorem dX10_device_102 : decode cX10_device 102 = .ok (.iconst 0, 1) := by decide +kernel
theorem dX10_device_103 : decode cX10_device 103 = .ok (.iadd, 1) := by decide +kernel
theorem dX10_device_104 : decode cX10_device 104 = .ok (.istore_n 3, 1) := by decide +kernel
theorem dX10_device_105 : decode cX10_device 105 = .ok (.iinc 4 1, 3) := by decide +kernel
theorem dX10_device_108 : decode cX10_device 108 = .ok (.goto (-66), 3) := by decide +kernel
theorem dX10_device_111 : decode cX10_device 111 = .ok (.iload_n 2, 1) := by decide +kernel
theorem dX10_device_112 : decode cX10_device 112 = .ok (.iconst 4, 1) := by decide +kernel
theorem dX10_device_113 : decode cX10_device 113 = .ok (.if_icmp .ge 12, 3) := by decide +kernel
theorem dX10_device_116 : decode cX10_device 116 = .ok (.aload_n 0, 1) := by decide +kernel
theorem dX10_device_117 : decode cX10_device 117 = .ok (.iload_n 1, 1) := by decide +kernel
theorem dX10_device_118 : decode cX10_device 118 = .ok (.iload_n 2, 1) := by decide +kernel
theorem dX10_device_119 : decode cX10_device 119 = .ok (.invokevirtual 90, 3) := by decide +kernel
theorem dX10_device_122 : decode cX10_device 122 = .ok (.goto 4, 3) := by decide +kernel
theorem dX10_device_125 : decode cX10_device 125 = .ok (.iload_n 3, 1) := by decide +kernel
theorem dX10_device_126 : decode cX10_device 126 = .ok (.ireturn, 1) := by decide +kernel
set_option maxRecDepth 20000 in
theorem ggX10_trace_X10_isKey : GoodIn wsX10_trace wsX10_isKey := goodIn_r _ [7, 8, 9, 10, 11, 6, 12, 2, 13, 14, 15, 30, 31, 32, 33, 34, 35, 36, 37, 38, 39, 40, 41, 42, 43, 44, 45, 46, 47, 48] (by decide +kernel) (by decide +kernel)
set_option maxRecDepth 20000 in
theorem gX10_trace_X10_isKey : GoodIn wsX10_trace (wsV RX10 161 RX10 yX10_isKey wsX10_isKey) := goodIn_app (goodIn_of _ (by decide +kernel)) ggX10_trace_X10_isKey
set_option maxRecDepth 20000 in
theorem ggX10_trace_X10_fails : GoodIn wsX10_trace wsX10_fails := goodIn_r _ [19, 1, 30, 31, 32, 33, 34, 35, 36, 37, 38, 39, 40, 41, 42, 43, 44, 45, 46, 47, 48] (by decide +kernel) (by decide +kernel)
set_option maxRecDepth 20000 in
theorem gX10_trace_X10_fails : GoodIn wsX10_trace (wsV RX10 105 RX10 yX10_fails wsX10_fails) := goodIn_app (goodIn_of _ (by decide +kernel)) ggX10_trace_X10_fails
set_option maxRecDepth 20000 in
theorem ggX10_trace_X10_keyAt : GoodIn wsX10_trace wsX10_keyAt := goodIn_r _ [22] (by decide +kernel) (by decide +kernel)
set_option maxRecDepth 20000 in
theorem gX10_trace_X10_keyAt : GoodIn wsX10_trace (va_wsS RX10 69 yX10_keyAt wsX10_keyAt) := goodIn_app (goodIn_of _ (by decide +kernel)) ggX10_trace_X10_keyAt
set_option maxRecDepth 20000 in
theorem ggX10_trace_X10_of : GoodIn wsX10_trace wsX10_of := goodIn_r _ [26, 2, 30, 31, 32, 33, 34, 35, 36, 37, 38, 39, 40, 41, 42, 43, 44, 45, 46, 47, 48] (by decide +kernel) (by decide +kernel)
set_option maxRecDepth 20000 in
theorem gX10_trace_X10_of : GoodIn wsX10_trace (wsV RX10 65 RX10 yX10_of wsX10_of) := goodIn_app (goodIn_of _ (by decide +kernel)) ggX10_trace_X10_of
set_option maxRecDepth 20000 in
theorem ggX10_trace_X10_orNone : GoodIn wsX10_trace wsX10_orNone := goodIn_r _ [29] (by decide +kernel) (by decide +kernel)
set_option maxRecDepth 20000 in
theorem gX10_trace_X10_orNone : GoodIn wsX10_trace (va_wsS RX10 175 yX10_orNone wsX10_orNone) := goodIn_app (goodIn_of _ (by decide +kernel)) ggX10_trace_X10_orNone
theorem dX10_trace_0 : decode cX10_trace 0 = .ok (.aload_n 0, 1) := by decide +kernel
theorem dX10_trace_1 : decode cX10_trace 1 = .ok (.iconst 0, 1) := by decide +kernel
