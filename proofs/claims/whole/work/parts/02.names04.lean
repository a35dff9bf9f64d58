theorem dX5_succeeds_229 : decode cX5_succeeds 229 = .ok (.iload 5, 2) := by decide +kernel
theorem dX5_succeeds_231 : decode cX5_succeeds 231 = .ok (.invokestatic 34, 3) := by decide +kernel
theorem dX5_succeeds_234 : decode cX5_succeeds 234 = .ok (.ifCond .eq 7, 3) := by decide +kernel
theorem dX5_succeeds_237 : decode cX5_succeeds 237 = .ok (.iconst 1, 1) := by decide +kernel
theorem dX5_succeeds_238 : decode cX5_succeeds 238 = .ok (.goto 4, 3) := by decide +kernel
theorem dX5_succeeds_241 : decode cX5_succeeds 241 = .ok (.iconst 0, 1) := by decide +kernel
theorem dX5_succeeds_242 : decode cX5_succeeds 242 = .ok (.ireturn, 1) := by decide +kernel
theorem dX5_succeeds_243 : decode cX5_succeeds 243 = .ok (.iload 5, 2) := by decide +kernel
theorem dX5_succeeds_245 : decode cX5_succeeds 245 = .ok (.ifCond .ne 18, 3) := by decide +kernel
theorem dX5_succeeds_248 : decode cX5_succeeds 248 = .ok (.aload_n 0, 1) := by decide +kernel
theorem dX5_succeeds_249 : decode cX5_succeeds 249 = .ok (.iload_n 2, 1) := by decide +kernel
theorem dX5_succeeds_250 : decode cX5_succeeds 250 = .ok (.iload_n 3, 1) := by decide +kernel
theorem dX5_succeeds_251 : decode cX5_succeeds 251 = .ok (.iload 4, 2) := by decide +kernel
theorem dX5_succeeds_253 : decode cX5_succeeds 253 = .ok (.invokevirtual 37, 3) := by decide +kernel
theorem dX5_succeeds_256 : decode cX5_succeeds 256 = .ok (.ifCond .eq 7, 3) := by decide +kernel
theorem dX5_succeeds_259 : decode cX5_succeeds 259 = .ok (.iconst 1, 1) := by decide +kernel
theorem dX5_succeeds_260 : decode cX5_succeeds 260 = .ok (.goto 4, 3) := by decide +kernel
theorem dX5_succeeds_263 : decode cX5_succeeds 263 = .ok (.iconst 0, 1) := by decide +kernel
theorem dX5_succeeds_264 : decode cX5_succeeds 264 = .ok (.ireturn, 1) := by decide +kernel
theorem dX5_succeeds_265 : decode cX5_succeeds 265 = .ok (.iload_n 3, 1) := by decide +kernel
theorem dX5_succeeds_266 : decode cX5_succeeds 266 = .ok (.ifCond .ne 22, 3) := by decide +kernel
theorem dX5_succeeds_269 : decode cX5_succeeds 269 = .ok (.iload 4, 2) := by decide +kernel
theorem dX5_succeeds_271 : decode cX5_succeeds 271 = .ok (.ifCond .ne 17, 3) := by decide +kernel
theorem dX5_succeeds_274 : decode cX5_succeeds 274 = .ok (.aload_n 0, 1) := by decide +kernel
theorem dX5_succeeds_275 : decode cX5_succeeds 275 = .ok (.iload_n 2, 1) := by decide +kernel
theorem dX5_succeeds_276 : decode cX5_succeeds 276 = .ok (.iload 5, 2) := by decide +kernel
theorem dX5_succeeds_278 : decode cX5_succeeds 278 = .ok (.invokestatic 43, 3) := by decide +kernel
theorem dX5_succeeds_281 : decode cX5_succeeds 281 = .ok (.ifCond .eq 7, 3) := by decide +kernel
theorem dX5_succeeds_284 : decode cX5_succeeds 284 = .ok (.iconst 1, 1) := by decide +kernel
theorem dX5_succeeds_285 : decode cX5_succeeds 285 = .ok (.goto 4, 3) := by decide +kernel
theorem dX5_succeeds_288 : decode cX5_succeeds 288 = .ok (.iconst 0, 1) := by decide +kernel
theorem dX5_succeeds_289 : decode cX5_succeeds 289 = .ok (.ireturn, 1) := by decide +kernel
theorem dX5_succeeds_290 : decode cX5_succeeds 290 = .ok (.iconst 0, 1) := by decide +kernel
theorem dX5_succeeds_291 : decode cX5_succeeds 291 = .ok (.ireturn, 1) := by decide +kernel
set_option maxRecDepth 20000 in
theorem ggX5_teaches_X7_hasKey : GoodIn wsX5_teaches wsX7_hasKey := goodIn_r _ [5, 6, 72, 73, 74, 75, 76, 77, 78] (by decide +kernel) (by decide +kernel)
set_option maxRecDepth 20000 in
theorem gX5_teaches_X7_hasKey : GoodIn wsX5_teaches (wsV RX5 46 RX7 yX7_hasKey wsX7_hasKey) := goodIn_app (goodIn_of _ (by decide +kernel)) ggX5_teaches_X7_hasKey
set_option maxRecDepth 20000 in
theorem ggX5_teaches_X7_canTeach : GoodIn wsX5_teaches wsX7_canTeach := goodIn_r _ [10, 11, 12, 13, 14, 4, 15, 16, 17, 18, 19, 20, 21, 2, 3, 5, 6, 22, 23, 24, 25, 26, 27, 72, 73, 74, 75, 76, 77, 78, 79, 80, 81, 82, 83, 84] (by decide +kernel) (by decide +kernel)
set_option maxRecDepth 20000 in
theorem gX5_teaches_X7_canTeach : GoodIn wsX5_teaches (wsV RX5 50 RX7 yX7_canTeach wsX7_canTeach) := goodIn_app (goodIn_of _ (by decide +kernel)) ggX5_teaches_X7_canTeach
set_option maxRecDepth 20000 in
theorem ggX5_teaches_X7_teachKey : GoodIn wsX5_teaches wsX7_teachKey := goodIn_r _ [31, 32, 33, 34, 35, 36, 37, 11, 38, 39, 40, 41, 42, 43, 16, 17, 18, 4, 19, 20, 21, 2, 3, 5, 6, 44, 45, 46, 47, 48, 49, 25, 50, 51, 52, 53, 54, 55, 27, 56, 57, 58, 59, 60, 61, 62, 63, 64, 65, 66, 67, 23, 24, 26, 68, 69, 70, 71, 72, 73, 74, 75, 76, 77, 78, 79, 80, 81, 82, 83, 84] (by decide +kernel) (by decide +kernel)
set_option maxRecDepth 20000 in
theorem gX5_teaches_X7_teachKey : GoodIn wsX5_teaches (wsV RX5 53 RX7 yX7_teachKey wsX7_teachKey) := goodIn_app (goodIn_of _ (by decide +kernel)) ggX5_teaches_X7_teachKey
theorem dX5_teaches_0 : decode cX5_teaches 0 = .ok (.iload_n 1, 1) := by decide +kernel
theorem dX5_teaches_1 : decode cX5_teaches 1 = .ok (.iload_n 3, 1) := by decide +kernel
theorem dX5_teaches_2 : decode cX5_teaches 2 = .ok (.if_icmp .ne 13, 3) := by decide +kernel
theorem dX5_teaches_5 : decode cX5_teaches 5 = .ok (.iload_n 2, 1) := by decide +kernel
theorem dX5_teaches_6 : decode cX5_teaches 6 = .ok (.iload 4, 2) := by decide +kernel
theorem dX5_teaches_8 : decode cX5_teaches 8 = .ok (.if_icmp .ne 7, 3) := by decide +kernel
theorem dX5_teaches_11 : decode cX5_teaches 11 = .ok (.iconst 1, 1) := by decide +kernel
theorem dX5_teaches_12 : decode cX5_teaches 12 = .ok (.goto 4, 3) := by decide +kernel
theorem dX5_teaches_15 : decode cX5_teaches 15 = .ok (.iconst 0, 1) := by decide +kernel
theorem dX5_teaches_16 : decode cX5_teaches 16 = .ok (.istore 5, 2) := by decide +kernel
theorem dX5_teaches_18 : decode cX5_teaches 18 = .ok (.aload_n 0, 1) := by decide +kernel
theorem dX5_teaches_19 : decode cX5_teaches 19 = .ok (.iload_n 3, 1) := by decide +kernel
theorem dX5_teaches_20 : decode cX5_teaches 20 = .ok (.iload 4, 2) := by decide +kernel
theorem dX5_teaches_22 : decode cX5_teaches 22 = .ok (.invokevirtual 46, 3) := by decide +kernel
theorem dX5_teaches_25 : decode cX5_teaches 25 = .ok (.ifCond .eq 17, 3) := by decide +kernel
theorem dX5_teaches_28 : decode cX5_teaches 28 = .ok (.iload 5, 2) := by decide +kernel
theorem dX5_teaches_30 : decode cX5_teaches 30 = .ok (.ifCond .ne 12, 3) := by decide +kernel
theorem dX5_teaches_33 : decode cX5_teaches 33 = .ok (.aload_n 0, 1) := by decide +kernel
theorem dX5_teaches_34 : decode cX5_teaches 34 = .ok (.iload_n 1, 1) := by decide +kernel
theorem dX5_teaches_35 : decode cX5_teaches 35 = .ok (.iload_n 2, 1) := by decide +kernel
theorem dX5_teaches_36 : decode cX5_teaches 36 = .ok (.invokevirtual 50, 3) := by decide +kernel
theorem dX5_teaches_39 : decode cX5_teaches 39 = .ok (.ifCond .ne 5, 3) := by decide +kernel
theorem dX5_teaches_42 : decode cX5_teaches 42 = .ok (.iconst 0, 1) := by decide +kernel
theorem dX5_teaches_43 : decode cX5_teaches 43 = .ok (.ireturn, 1) := by decide +kernel
theorem dX5_teaches_44 : decode cX5_teaches 44 = .ok (.aload_n 0, 1) := by decide +kernel
theorem dX5_teaches_45 : decode cX5_teaches 45 = .ok (.iload_n 1, 1) := by decide +kernel
theorem dX5_teaches_46 : decode cX5_teaches 46 = .ok (.iload_n 2, 1) := by decide +kernel
theorem dX5_teaches_47 : decode cX5_teaches 47 = .ok (.iload_n 3, 1) := by decide +kernel
theorem dX5_teaches_48 : decode cX5_teaches 48 = .ok (.iload 4, 2) := by decide +kernel
theorem dX5_teaches_50 : decode cX5_teaches 50 = .ok (.invokevirtual 53, 3) := by decide +kernel
theorem dX5_teaches_53 : decode cX5_teaches 53 = .ok (.pop, 1) := by decide +kernel
theorem dX5_teaches_54 : decode cX5_teaches 54 = .ok (.iconst 1, 1) := by decide +kernel
theorem dX5_teaches_55 : decode cX5_teaches 55 = .ok (.ireturn, 1) := by decide +kernel
set_option maxRecDepth 20000 in
theorem ggX5_presses_X7_hasCode : GoodIn wsX5_presses wsX7_hasCode := goodIn_r _ [5, 6, 7, 8, 4, 9, 10, 11, 12, 13, 14, 15, 71, 72, 73, 74, 75, 76, 77] (by decide +kernel) (by decide +kernel)
set_option maxRecDepth 20000 in
theorem gX5_presses_X7_hasCode : GoodIn wsX5_presses (wsV RX5 57 RX7 yX7_hasCode wsX7_hasCode) := goodIn_app (goodIn_of _ (by decide +kernel)) ggX5_presses_X7_hasCode
set_option maxRecDepth 20000 in
theorem ggX5_presses_X7_pressKey : GoodIn wsX5_presses wsX7_pressKey := goodIn_r _ [19, 20, 21, 22, 23, 24, 4, 25, 26, 6, 7, 8, 9, 10, 11, 12, 13, 14, 15, 27, 28, 29, 30, 31, 32, 33, 34, 35, 36, 37, 38, 39, 40, 41, 42, 43, 44, 45, 46, 47, 48, 49, 50, 51, 52, 53, 54, 55, 56, 57, 58, 59, 60, 61, 62, 63, 64, 65, 66, 67, 68, 69, 70, 71, 72, 73, 74, 75, 76, 77, 78, 79, 80, 81, 82, 83, 84, 85, 86, 87, 88] (by decide +kernel) (by decide +kernel)
set_option maxRecDepth 20000 in
theorem gX5_presses_X7_pressKey : GoodIn wsX5_presses (wsV RX5 60 RX7 yX7_pressKey wsX7_pressKey) := goodIn_app (goodIn_of _ (by decide +kernel)) ggX5_presses_X7_pressKey
theorem dX5_presses_0 : decode cX5_presses 0 = .ok (.aload_n 0, 1) := by decide +kernel
theorem dX5_presses_1 : decode cX5_presses 1 = .ok (.iload_n 1, 1) := by decide +kernel
theorem dX5_presses_2 : decode cX5_presses 2 = .ok (.iload_n 2, 1) := by decide +kernel
theorem dX5_presses_3 : decode cX5_presses 3 = .ok (.invokevirtual 57, 3) := by decide +kernel
theorem dX5_presses_6 : decode cX5_presses 6 = .ok (.ifCond .ne 5, 3) := by decide +kernel
theorem dX5_presses_9 : decode cX5_presses 9 = .ok (.iconst 0, 1) := by decide +kernel
theorem dX5_presses_10 : decode cX5_presses 10 = .ok (.ireturn, 1) := by decide +kernel
theorem dX5_presses_11 : decode cX5_presses 11 = .ok (.aload_n 0, 1) := by decide +kernel
theorem dX5_presses_12 : decode cX5_presses 12 = .ok (.iload_n 1, 1) := by decide +kernel
theorem dX5_presses_13 : decode cX5_presses 13 = .ok (.iload_n 2, 1) := by decide +kernel
theorem dX5_presses_14 : decode cX5_presses 14 = .ok (.invokevirtual 60, 3) := by decide +kernel
theorem dX5_presses_17 : decode cX5_presses 17 = .ok (.pop, 1) := by decide +kernel
theorem dX5_presses_18 : decode cX5_presses 18 = .ok (.iconst 1, 1) := by decide +kernel
theorem dX5_presses_19 : decode cX5_presses 19 = .ok (.ireturn, 1) := by decide +kernel
set_option maxRecDepth 20000 in
theorem ggX5_erases_X7_hasKey : GoodIn wsX5_erases wsX7_hasKey := goodIn_r _ [5, 6, 37, 38, 39, 40, 41, 42, 43] (by decide +kernel) (by decide +kernel)
set_option maxRecDepth 20000 in
theorem gX5_erases_X7_hasKey : GoodIn wsX5_erases (wsV RX5 46 RX7 yX7_hasKey wsX7_hasKey) := goodIn_app (goodIn_of _ (by decide +kernel)) ggX5_erases_X7_hasKey
set_option maxRecDepth 20000 in
theorem ggX5_erases_X7_eraseKey : GoodIn wsX5_erases wsX7_eraseKey := goodIn_r _ [10, 11, 12, 13, 4, 14, 15, 16, 17, 18, 19, 20, 21, 2, 3, 5, 6, 22, 23, 24, 25, 26, 27, 28, 29, 30, 31, 32, 33, 34, 35, 36, 37, 38, 39, 40, 41, 42, 43, 44, 45, 46, 47, 48, 49] (by decide +kernel) (by decide +kernel)
set_option maxRecDepth 20000 in
theorem gX5_erases_X7_eraseKey : GoodIn wsX5_erases (wsV RX5 64 RX7 yX7_eraseKey wsX7_eraseKey) := goodIn_app (goodIn_of _ (by decide +kernel)) ggX5_erases_X7_eraseKey
theorem dX5_erases_0 : decode cX5_erases 0 = .ok (.aload_n 0, 1) := by decide +kernel
theorem dX5_erases_1 : decode cX5_erases 1 = .ok (.iload_n 1, 1) := by decide +kernel
theorem dX5_erases_2 : decode cX5_erases 2 = .ok (.iload_n 2, 1) := by decide +kernel
theorem dX5_erases_3 : decode cX5_erases 3 = .ok (.invokevirtual 46, 3) := by decide +kernel
theorem dX5_erases_6 : decode cX5_erases 6 = .ok (.ifCond .ne 5, 3) := by decide +kernel
theorem dX5_erases_9 : decode cX5_erases 9 = .ok (.iconst 0, 1) := by decide +kernel
theorem dX5_erases_10 : decode cX5_erases 10 = .ok (.ireturn, 1) := by decide +kernel
theorem dX5_erases_11 : decode cX5_erases 11 = .ok (.aload_n 0, 1) := by decide +kernel
theorem dX5_erases_12 : decode cX5_erases 12 = .ok (.iload_n 1, 1) := by decide +kernel
theorem dX5_erases_13 : decode cX5_erases 13 = .ok (.iload_n 2, 1) := by decide +kernel
theorem dX5_erases_14 : decode cX5_erases 14 = .ok (.invokevirtual 64, 3) := by decide +kernel
theorem dX5_erases_17 : decode cX5_erases 17 = .ok (.pop, 1) := by decide +kernel
theorem dX5_erases_18 : decode cX5_erases 18 = .ok (.iconst 1, 1) := by decide +kernel
theorem dX5_erases_19 : decode cX5_erases 19 = .ok (.ireturn, 1) := by decide +kernel
set_option maxRecDepth 20000 in
theorem ggX5_sets_X9_isSetting : GoodIn wsX5_sets wsX9_isSetting := goodIn_r _ [3, 4, 5, 2, 6] (by decide +kernel) (by decide +kernel)
set_option maxRecDepth 20000 in
theorem gX5_sets_X9_isSetting_n67 : GoodIn wsX5_sets (wsX9_isSetting) := ggX5_sets_X9_isSetting
set_option maxRecDepth 20000 in
theorem ggX5_sets_X7_changeSetting : GoodIn wsX5_sets wsX7_changeSetting := goodIn_r _ [11, 12, 13, 14, 15, 16, 17, 18, 19, 20] (by decide +kernel) (by decide +kernel)
set_option maxRecDepth 20000 in
theorem gX5_sets_X7_changeSetting : GoodIn wsX5_sets (wsV RX5 70 RX7 yX7_changeSetting wsX7_changeSetting) := goodIn_app (goodIn_of _ (by decide +kernel)) ggX5_sets_X7_changeSetting
theorem dX5_sets_0 : decode cX5_sets 0 = .ok (.iload_n 1, 1) := by decide +kernel
theorem dX5_sets_1 : decode cX5_sets 1 = .ok (.iload_n 2, 1) := by decide +kernel
theorem dX5_sets_2 : decode cX5_sets 2 = .ok (.invokestatic 67, 3) := by decide +kernel
theorem dX5_sets_5 : decode cX5_sets 5 = .ok (.ifCond .ne 5, 3) := by decide +kernel
theorem dX5_sets_8 : decode cX5_sets 8 = .ok (.iconst 0, 1) := by decide +kernel
theorem dX5_sets_9 : decode cX5_sets 9 = .ok (.ireturn, 1) := by decide +kernel
theorem dX5_sets_10 : decode cX5_sets 10 = .ok (.aload_n 0, 1) := by decide +kernel
theorem dX5_sets_11 : decode cX5_sets 11 = .ok (.iload_n 1, 1) := by decide +kernel
theorem dX5_sets_12 : decode cX5_sets 12 = .ok (.iload_n 2, 1) := by decide +kernel
theorem dX5_sets_13 : decode cX5_sets 13 = .ok (.invokevirtual 70, 3) := by decide +kernel
theorem dX5_sets_16 : decode cX5_sets 16 = .ok (.pop, 1) := by decide +kernel
theorem dX5_sets_17 : decode cX5_sets 17 = .ok (.iconst 1, 1) := by decide +kernel
theorem dX5_sets_18 : decode cX5_sets 18 = .ok (.ireturn, 1) := by decide +kernel
set_option maxRecDepth 20000 in
theorem ggX5_setsTolerance_X0_has : GoodIn wsX5_setsTolerance wsX0_has := goodIn_r _ [5, 6, 30, 31, 32, 33, 34] (by decide +kernel) (by decide +kernel)
set_option maxRecDepth 20000 in
theorem gX5_setsTolerance_X0_has : GoodIn wsX5_setsTolerance (wsV RX5 77 RX0 yX0_has wsX0_has) := goodIn_app (goodIn_of _ (by decide +kernel)) ggX5_setsTolerance_X0_has
set_option maxRecDepth 20000 in
theorem ggX5_setsTolerance_X9_isTolerance : GoodIn wsX5_setsTolerance wsX9_isTolerance := goodIn_r _ [9, 10, 11, 8, 12] (by decide +kernel) (by decide +kernel)
set_option maxRecDepth 20000 in
theorem gX5_setsTolerance_X9_isTolerance_n83 : GoodIn wsX5_setsTolerance (wsX9_isTolerance) := ggX5_setsTolerance_X9_isTolerance
set_option maxRecDepth 20000 in
theorem ggX5_setsTolerance_X0_changeTolerance : GoodIn wsX5_setsTolerance wsX0_changeTolerance := goodIn_r _ [16, 17, 18, 19, 20, 4, 21, 22, 2, 3, 5, 6, 30, 31, 32, 33, 34] (by decide +kernel) (by decide +kernel)
set_option maxRecDepth 20000 in
theorem gX5_setsTolerance_X0_changeTolerance : GoodIn wsX5_setsTolerance (wsV RX5 86 RX0 yX0_changeTolerance wsX0_changeTolerance) := goodIn_app (goodIn_of _ (by decide +kernel)) ggX5_setsTolerance_X0_changeTolerance
theorem dX5_setsTolerance_0 : decode cX5_setsTolerance 0 = .ok (.aload_n 0, 1) := by decide +kernel
theorem dX5_setsTolerance_1 : decode cX5_setsTolerance 1 = .ok (.getfield 73, 3) := by decide +kernel
theorem dX5_setsTolerance_4 : decode cX5_setsTolerance 4 = .ok (.iload_n 1, 1) := by decide +kernel
theorem dX5_setsTolerance_5 : decode cX5_setsTolerance 5 = .ok (.invokevirtual 77, 3) := by decide +kernel
theorem dX5_setsTolerance_8 : decode cX5_setsTolerance 8 = .ok (.ifCond .eq 10, 3) := by decide +kernel
theorem dX5_setsTolerance_11 : decode cX5_setsTolerance 11 = .ok (.iload_n 2, 1) := by decide +kernel
theorem dX5_setsTolerance_12 : decode cX5_setsTolerance 12 = .ok (.invokestatic 83, 3) := by decide +kernel
theorem dX5_setsTolerance_15 : decode cX5_setsTolerance 15 = .ok (.ifCond .ne 5, 3) := by decide +kernel
theorem dX5_setsTolerance_18 : decode cX5_setsTolerance 18 = .ok (.iconst 0, 1) := by decide +kernel
theorem dX5_setsTolerance_19 : decode cX5_setsTolerance 19 = .ok (.ireturn, 1) := by decide +kernel
theorem dX5_setsTolerance_20 : decode cX5_setsTolerance 20 = .ok (.aload_n 0, 1) := by decide +kernel
theorem dX5_setsTolerance_21 : decode cX5_setsTolerance 21 = .ok (.getfield 73, 3) := by decide +kernel
theorem dX5_setsTolerance_24 : decode cX5_setsTolerance 24 = .ok (.iload_n 1, 1) := by decide +kernel
theorem dX5_setsTolerance_25 : decode cX5_setsTolerance 25 = .ok (.iload_n 2, 1) := by decide +kernel
theorem dX5_setsTolerance_26 : decode cX5_setsTolerance 26 = .ok (.invokevirtual 86, 3) := by decide +kernel
theorem dX5_setsTolerance_29 : decode cX5_setsTolerance 29 = .ok (.pop, 1) := by decide +kernel
theorem dX5_setsTolerance_30 : decode cX5_setsTolerance 30 = .ok (.iconst 1, 1) := by decide +kernel
theorem dX5_setsTolerance_31 : decode cX5_setsTolerance 31 = .ok (.ireturn, 1) := by decide +kernel
set_option maxRecDepth 20000 in
theorem ggX5_hasGeneration_X7_hasCode : GoodIn wsX5_hasGeneration wsX7_hasCode := goodIn_r _ [5, 6, 7, 8, 4, 9, 10, 11, 12, 13, 14, 15, 32, 33, 34, 35, 36, 37, 38] (by decide +kernel) (by decide +kernel)
set_option maxRecDepth 20000 in
theorem gX5_hasGeneration_X7_hasCode : GoodIn wsX5_hasGeneration (wsV RX5 57 RX7 yX7_hasCode wsX7_hasCode) := goodIn_app (goodIn_of _ (by decide +kernel)) ggX5_hasGeneration_X7_hasCode
set_option maxRecDepth 20000 in
theorem ggX5_hasGeneration_X7_recordOf : GoodIn wsX5_hasGeneration wsX7_recordOf := goodIn_r _ [9, 10, 11, 12, 13, 4, 14, 15, 32, 33, 34, 35, 36, 37, 38] (by decide +kernel) (by decide +kernel)
set_option maxRecDepth 20000 in
theorem gX5_hasGeneration_X7_recordOf : GoodIn wsX5_hasGeneration (wsV RX5 93 RX7 yX7_recordOf wsX7_recordOf) := goodIn_app (goodIn_of _ (by decide +kernel)) ggX5_hasGeneration_X7_recordOf
set_option maxRecDepth 20000 in
theorem ggX5_hasGeneration_X4_generationOf : GoodIn wsX5_hasGeneration wsX4_generationOf := goodIn_r _ [21, 22, 23, 24, 20, 25, 26, 27, 28, 29, 30, 31, 39, 40, 41, 42, 43, 44] (by decide +kernel) (by decide +kernel)
set_option maxRecDepth 20000 in
theorem gX5_hasGeneration_X4_generationOf : GoodIn wsX5_hasGeneration (wsV RX5 96 RX4 yX4_generationOf wsX4_generationOf) := goodIn_app (goodIn_of _ (by decide +kernel)) ggX5_hasGeneration_X4_generationOf
theorem dX5_hasGeneration_0 : decode cX5_hasGeneration 0 = .ok (.aload_n 0, 1) := by decide +kernel
theorem dX5_hasGeneration_1 : decode cX5_hasGeneration 1 = .ok (.iload_n 1, 1) := by decide +kernel
theorem dX5_hasGeneration_2 : decode cX5_hasGeneration 2 = .ok (.iload_n 2, 1) := by decide +kernel
theorem dX5_hasGeneration_3 : decode cX5_hasGeneration 3 = .ok (.invokevirtual 57, 3) := by decide +kernel
theorem dX5_hasGeneration_6 : decode cX5_hasGeneration 6 = .ok (.ifCond .eq 24, 3) := by decide +kernel
theorem dX5_hasGeneration_9 : decode cX5_hasGeneration 9 = .ok (.aload_n 0, 1) := by decide +kernel
theorem dX5_hasGeneration_10 : decode cX5_hasGeneration 10 = .ok (.getfield 89, 3) := by decide +kernel
theorem dX5_hasGeneration_13 : decode cX5_hasGeneration 13 = .ok (.aload_n 0, 1) := by decide +kernel
theorem dX5_hasGeneration_14 : decode cX5_hasGeneration 14 = .ok (.iload_n 1, 1) := by decide +kernel
theorem dX5_hasGeneration_15 : decode cX5_hasGeneration 15 = .ok (.iload_n 2, 1) := by decide +kernel
theorem dX5_hasGeneration_16 : decode cX5_hasGeneration 16 = .ok (.invokevirtual 93, 3) := by decide +kernel
theorem dX5_hasGeneration_19 : decode cX5_hasGeneration 19 = .ok (.invokevirtual 96, 3) := by decide +kernel
theorem dX5_hasGeneration_22 : decode cX5_hasGeneration 22 = .ok (.iload_n 3, 1) := by decide +kernel
theorem dX5_hasGeneration_23 : decode cX5_hasGeneration 23 = .ok (.if_icmp .ne 7, 3) := by decide +kernel
theorem dX5_hasGeneration_26 : decode cX5_hasGeneration 26 = .ok (.iconst 1, 1) := by decide +kernel
theorem dX5_hasGeneration_27 : decode cX5_hasGeneration 27 = .ok (.goto 4, 3) := by decide +kernel
theorem dX5_hasGeneration_30 : decode cX5_hasGeneration 30 = .ok (.iconst 0, 1) := by decide +kernel
theorem dX5_hasGeneration_31 : decode cX5_hasGeneration 31 = .ok (.ireturn, 1) := by decide +kernel
set_option maxRecDepth 20000 in
theorem ggX5_hasWrongBits_X7_hasCode : GoodIn wsX5_hasWrongBits wsX7_hasCode := goodIn_r _ [5, 6, 7, 8, 4, 9, 10, 11, 12, 13, 14, 15, 37, 38, 39, 40, 41, 42, 43] (by decide +kernel) (by decide +kernel)
set_option maxRecDepth 20000 in
theorem gX5_hasWrongBits_X7_hasCode : GoodIn wsX5_hasWrongBits (wsV RX5 57 RX7 yX7_hasCode wsX7_hasCode) := goodIn_app (goodIn_of _ (by decide +kernel)) ggX5_hasWrongBits_X7_hasCode
set_option maxRecDepth 20000 in
theorem ggX5_hasWrongBits_X7_recordOf : GoodIn wsX5_hasWrongBits wsX7_recordOf := goodIn_r _ [9, 10, 11, 12, 13, 4, 14, 15, 37, 38, 39, 40, 41, 42, 43] (by decide +kernel) (by decide +kernel)
set_option maxRecDepth 20000 in
theorem gX5_hasWrongBits_X7_recordOf : GoodIn wsX5_hasWrongBits (wsV RX5 93 RX7 yX7_recordOf wsX7_recordOf) := goodIn_app (goodIn_of _ (by decide +kernel)) ggX5_hasWrongBits_X7_recordOf
set_option maxRecDepth 20000 in
theorem ggX5_hasWrongBits_X4_wrongBitsInChain : GoodIn wsX5_hasWrongBits wsX4_wrongBitsInChain := goodIn_r _ [21, 22, 23, 24, 20, 25, 26, 27, 28, 29, 30, 31, 32, 33, 34, 35, 36, 44, 45, 46, 47, 48, 49] (by decide +kernel) (by decide +kernel)
set_option maxRecDepth 20000 in
theorem gX5_hasWrongBits_X4_wrongBitsInChain : GoodIn wsX5_hasWrongBits (wsV RX5 102 RX4 yX4_wrongBitsInChain wsX4_wrongBitsInChain) := goodIn_app (goodIn_of _ (by decide +kernel)) ggX5_hasWrongBits_X4_wrongBitsInChain
theorem dX5_hasWrongBits_0 : decode cX5_hasWrongBits 0 = .ok (.aload_n 0, 1) := by decide +kernel
theorem dX5_hasWrongBits_1 : decode cX5_hasWrongBits 1 = .ok (.iload_n 1, 1) := by decide +kernel
theorem dX5_hasWrongBits_2 : decode cX5_hasWrongBits 2 = .ok (.iload_n 2, 1) := by decide +kernel
theorem dX5_hasWrongBits_3 : decode cX5_hasWrongBits 3 = .ok (.invokevirtual 57, 3) := by decide +kernel
theorem dX5_hasWrongBits_6 : decode cX5_hasWrongBits 6 = .ok (.ifCond .eq 24, 3) := by decide +kernel
theorem dX5_hasWrongBits_9 : decode cX5_hasWrongBits 9 = .ok (.aload_n 0, 1) := by decide +kernel
theorem dX5_hasWrongBits_10 : decode cX5_hasWrongBits 10 = .ok (.getfield 89, 3) := by decide +kernel
theorem dX5_hasWrongBits_13 : decode cX5_hasWrongBits 13 = .ok (.aload_n 0, 1) := by decide +kernel
theorem dX5_hasWrongBits_14 : decode cX5_hasWrongBits 14 = .ok (.iload_n 1, 1) := by decide +kernel
theorem dX5_hasWrongBits_15 : decode cX5_hasWrongBits 15 = .ok (.iload_n 2, 1) := by decide +kernel
theorem dX5_hasWrongBits_16 : decode cX5_hasWrongBits 16 = .ok (.invokevirtual 93, 3) := by decide +kernel
theorem dX5_hasWrongBits_19 : decode cX5_hasWrongBits 19 = .ok (.invokevirtual 102, 3) := by decide +kernel
theorem dX5_hasWrongBits_22 : decode cX5_hasWrongBits 22 = .ok (.iload_n 3, 1) := by decide +kernel
theorem dX5_hasWrongBits_23 : decode cX5_hasWrongBits 23 = .ok (.if_icmp .gt 7, 3) := by decide +kernel
theorem dX5_hasWrongBits_26 : decode cX5_hasWrongBits 26 = .ok (.iconst 1, 1) := by decide +kernel
theorem dX5_hasWrongBits_27 : decode cX5_hasWrongBits 27 = .ok (.goto 4, 3) := by decide +kernel
theorem dX5_hasWrongBits_30 : decode cX5_hasWrongBits 30 = .ok (.iconst 0, 1) := by decide +kernel
theorem dX5_hasWrongBits_31 : decode cX5_hasWrongBits 31 = .ok (.ireturn, 1) := by decide +kernel
set_option maxRecDepth 20000 in
theorem ggX5_isSwitched_X0_has : GoodIn wsX5_isSwitched wsX0_has := goodIn_r _ [5, 6, 20, 21, 22, 23, 24] (by decide +kernel) (by decide +kernel)
set_option maxRecDepth 20000 in
theorem gX5_isSwitched_X0_has : GoodIn wsX5_isSwitched (wsV RX5 77 RX0 yX0_has wsX0_has) := goodIn_app (goodIn_of _ (by decide +kernel)) ggX5_isSwitched_X0_has
set_option maxRecDepth 20000 in
theorem ggX5_isSwitched_X0_isOn : GoodIn wsX5_isSwitched wsX0_isOn := goodIn_r _ [10, 11, 12, 2, 3, 4, 5, 6, 20, 21, 22, 23, 24] (by decide +kernel) (by decide +kernel)
set_option maxRecDepth 20000 in
theorem gX5_isSwitched_X0_isOn : GoodIn wsX5_isSwitched (wsV RX5 105 RX0 yX0_isOn wsX0_isOn) := goodIn_app (goodIn_of _ (by decide +kernel)) ggX5_isSwitched_X0_isOn
theorem dX5_isSwitched_0 : decode cX5_isSwitched 0 = .ok (.aload_n 0, 1) := by decide +kernel
theorem dX5_isSwitched_1 : decode cX5_isSwitched 1 = .ok (.getfield 73, 3) := by decide +kernel
theorem dX5_isSwitched_4 : decode cX5_isSwitched 4 = .ok (.iload_n 1, 1) := by decide +kernel
theorem dX5_isSwitched_5 : decode cX5_isSwitched 5 = .ok (.invokevirtual 77, 3) := by decide +kernel
theorem dX5_isSwitched_8 : decode cX5_isSwitched 8 = .ok (.ifCond .eq 27, 3) := by decide +kernel
theorem dX5_isSwitched_11 : decode cX5_isSwitched 11 = .ok (.iload_n 2, 1) := by decide +kernel
theorem dX5_isSwitched_12 : decode cX5_isSwitched 12 = .ok (.aload_n 0, 1) := by decide +kernel
theorem dX5_isSwitched_13 : decode cX5_isSwitched 13 = .ok (.getfield 73, 3) := by decide +kernel
theorem dX5_isSwitched_16 : decode cX5_isSwitched 16 = .ok (.iload_n 1, 1) := by decide +kernel
theorem dX5_isSwitched_17 : decode cX5_isSwitched 17 = .ok (.invokevirtual 105, 3) := by decide +kernel
theorem dX5_isSwitched_20 : decode cX5_isSwitched 20 = .ok (.ifCond .eq 7, 3) := by decide +kernel
theorem dX5_isSwitched_23 : decode cX5_isSwitched 23 = .ok (.iconst 1, 1) := by decide +kernel
theorem dX5_isSwitched_24 : decode cX5_isSwitched 24 = .ok (.goto 4, 3) := by decide +kernel
theorem dX5_isSwitched_27 : decode cX5_isSwitched 27 = .ok (.iconst 0, 1) := by decide +kernel
theorem dX5_isSwitched_28 : decode cX5_isSwitched 28 = .ok (.if_icmp .ne 7, 3) := by decide +kernel
theorem dX5_isSwitched_31 : decode cX5_isSwitched 31 = .ok (.iconst 1, 1) := by decide +kernel
theorem dX5_isSwitched_32 : decode cX5_isSwitched 32 = .ok (.goto 4, 3) := by decide +kernel
theorem dX5_isSwitched_35 : decode cX5_isSwitched 35 = .ok (.iconst 0, 1) := by decide +kernel
theorem dX5_isSwitched_36 : decode cX5_isSwitched 36 = .ok (.ireturn, 1) := by decide +kernel
set_option maxRecDepth 20000 in
theorem ggX6_init_X7_init : GoodIn wsX6_init wsX7_init := goodIn_r _ [10, 11, 2, 3, 12, 13, 14, 15, 16, 17, 18, 19, 20, 21, 22, 23, 24, 25, 26, 27, 28, 29, 30, 31, 32, 33, 34, 35, 36, 37, 38, 7, 39, 40, 41, 42, 43, 44, 45, 46, 47, 48, 49, 50, 51, 52, 53, 54, 55, 56, 57, 58, 68, 69, 70, 71, 72, 73, 61, 62, 63, 64, 65, 66, 67, 74, 75, 76, 77, 78] (by decide +kernel) (by decide +kernel)
set_option maxRecDepth 20000 in
theorem gX6_init_X7_init : GoodIn wsX6_init (wsX7_init) := ggX6_init_X7_init
theorem dX6_init_0 : decode cX6_init 0 = .ok (.aload_n 0, 1) := by decide +kernel
theorem dX6_init_1 : decode cX6_init 1 = .ok (.invokespecial 3, 3) := by decide +kernel
theorem dX6_init_4 : decode cX6_init 4 = .ok (.aload_n 0, 1) := by decide +kernel
theorem dX6_init_5 : decode cX6_init 5 = .ok (.iconst 2, 1) := by decide +kernel
theorem dX6_init_6 : decode cX6_init 6 = .ok (.anewarray 9, 3) := by decide +kernel
theorem dX6_init_9 : decode cX6_init 9 = .ok (.putfield 11, 3) := by decide +kernel
theorem dX6_init_12 : decode cX6_init 12 = .ok (.iconst 0, 1) := by decide +kernel
theorem dX6_init_13 : decode cX6_init 13 = .ok (.istore_n 1, 1) := by decide +kernel
theorem dX6_init_14 : decode cX6_init 14 = .ok (.iload_n 1, 1) := by decide +kernel
theorem dX6_init_15 : decode cX6_init 15 = .ok (.iconst 2, 1) := by decide +kernel
theorem dX6_init_16 : decode cX6_init 16 = .ok (.if_icmp .ge 22, 3) := by decide +kernel
theorem dX6_init_19 : decode cX6_init 19 = .ok (.aload_n 0, 1) := by decide +kernel
theorem dX6_init_20 : decode cX6_init 20 = .ok (.getfield 11, 3) := by decide +kernel
theorem dX6_init_23 : decode cX6_init 23 = .ok (.iload_n 1, 1) := by decide +kernel
theorem dX6_init_24 : decode cX6_init 24 = .ok (.new 9, 3) := by decide +kernel
theorem dX6_init_27 : decode cX6_init 27 = .ok (.dup, 1) := by decide +kernel
theorem dX6_init_28 : decode cX6_init 28 = .ok (.invokespecial 17, 3) := by decide +kernel
theorem dX6_init_31 : decode cX6_init 31 = .ok (.aastore, 1) := by decide +kernel
theorem dX6_init_32 : decode cX6_init 32 = .ok (.iinc 1 1, 3) := by decide +kernel
theorem dX6_init_35 : decode cX6_init 35 = .ok (.goto (-21), 3) := by decide +kernel
theorem dX6_init_38 : decode cX6_init 38 = .ok (.return_, 1) := by decide +kernel
theorem dX6_has_0 : decode cX6_has 0 = .ok (.iload_n 1, 1) := by decide +kernel
theorem dX6_has_1 : decode cX6_has 1 = .ok (.ifCond .lt 12, 3) := by decide +kernel
theorem dX6_has_4 : decode cX6_has 4 = .ok (.iload_n 1, 1) := by decide +kernel
theorem dX6_has_5 : decode cX6_has 5 = .ok (.iconst 2, 1) := by decide +kernel
theorem dX6_has_6 : decode cX6_has 6 = .ok (.if_icmp .ge 7, 3) := by decide +kernel
theorem dX6_has_9 : decode cX6_has 9 = .ok (.iconst 1, 1) := by decide +kernel
theorem dX6_has_10 : decode cX6_has 10 = .ok (.goto 4, 3) := by decide +kernel
theorem dX6_has_13 : decode cX6_has 13 = .ok (.iconst 0, 1) := by decide +kernel
theorem dX6_has_14 : decode cX6_has 14 = .ok (.ireturn, 1) := by decide +kernel
set_option maxRecDepth 20000 in
theorem ggX6_isFilled_X6_has : GoodIn wsX6_isFilled wsX6_has := goodIn_r _ [6] (by decide +kernel) (by decide +kernel)
set_option maxRecDepth 20000 in
theorem gX6_isFilled_X6_has : GoodIn wsX6_isFilled (wsV RX6 18 RX6 yX6_has wsX6_has) := goodIn_app (goodIn_of _ (by decide +kernel)) ggX6_isFilled_X6_has
theorem dX6_isFilled_0 : decode cX6_isFilled 0 = .ok (.aload_n 0, 1) := by decide +kernel
theorem dX6_isFilled_1 : decode cX6_isFilled 1 = .ok (.iload_n 1, 1) := by decide +kernel
theorem dX6_isFilled_2 : decode cX6_isFilled 2 = .ok (.invokevirtual 18, 3) := by decide +kernel
theorem dX6_isFilled_5 : decode cX6_isFilled 5 = .ok (.ifCond .eq 19, 3) := by decide +kernel
theorem dX6_isFilled_8 : decode cX6_isFilled 8 = .ok (.aload_n 0, 1) := by decide +kernel
theorem dX6_isFilled_9 : decode cX6_isFilled 9 = .ok (.getfield 22, 3) := by decide +kernel
theorem dX6_isFilled_12 : decode cX6_isFilled 12 = .ok (.iload_n 1, 1) := by decide +kernel
theorem dX6_isFilled_13 : decode cX6_isFilled 13 = .ok (.ishr, 1) := by decide +kernel
theorem dX6_isFilled_14 : decode cX6_isFilled 14 = .ok (.iconst 1, 1) := by decide +kernel
theorem dX6_isFilled_15 : decode cX6_isFilled 15 = .ok (.iand, 1) := by decide +kernel
theorem dX6_isFilled_16 : decode cX6_isFilled 16 = .ok (.iconst 1, 1) := by decide +kernel
theorem dX6_isFilled_17 : decode cX6_isFilled 17 = .ok (.if_icmp .ne 7, 3) := by decide +kernel
theorem dX6_isFilled_20 : decode cX6_isFilled 20 = .ok (.iconst 1, 1) := by decide +kernel
theorem dX6_isFilled_21 : decode cX6_isFilled 21 = .ok (.goto 4, 3) := by decide +kernel
theorem dX6_isFilled_24 : decode cX6_isFilled 24 = .ok (.iconst 0, 1) := by decide +kernel
theorem dX6_isFilled_25 : decode cX6_isFilled 25 = .ok (.ireturn, 1) := by decide +kernel
set_option maxRecDepth 20000 in
theorem ggX6_stateAt_X6_has : GoodIn wsX6_stateAt wsX6_has := goodIn_r _ [6] (by decide +kernel) (by decide +kernel)
set_option maxRecDepth 20000 in
theorem gX6_stateAt_X6_has : GoodIn wsX6_stateAt (wsV RX6 18 RX6 yX6_has wsX6_has) := goodIn_app (goodIn_of _ (by decide +kernel)) ggX6_stateAt_X6_has
theorem dX6_stateAt_0 : decode cX6_stateAt 0 = .ok (.aload_n 0, 1) := by decide +kernel
theorem dX6_stateAt_1 : decode cX6_stateAt 1 = .ok (.iload_n 1, 1) := by decide +kernel
theorem dX6_stateAt_2 : decode cX6_stateAt 2 = .ok (.invokevirtual 18, 3) := by decide +kernel
theorem dX6_stateAt_5 : decode cX6_stateAt 5 = .ok (.ifCond .eq 12, 3) := by decide +kernel
theorem dX6_stateAt_8 : decode cX6_stateAt 8 = .ok (.aload_n 0, 1) := by decide +kernel
theorem dX6_stateAt_9 : decode cX6_stateAt 9 = .ok (.getfield 11, 3) := by decide +kernel
theorem dX6_stateAt_12 : decode cX6_stateAt 12 = .ok (.iload_n 1, 1) := by decide +kernel
theorem dX6_stateAt_13 : decode cX6_stateAt 13 = .ok (.aaload, 1) := by decide +kernel
theorem dX6_stateAt_14 : decode cX6_stateAt 14 = .ok (.goto 4, 3) := by decide +kernel
theorem dX6_stateAt_17 : decode cX6_stateAt 17 = .ok (.aconst_null, 1) := by decide +kernel
theorem dX6_stateAt_18 : decode cX6_stateAt 18 = .ok (.areturn, 1) := by decide +kernel
set_option maxRecDepth 20000 in
theorem ggX6_keep_X6_stateAt : GoodIn wsX6_keep wsX6_stateAt := goodIn_r _ [6, 7, 8, 9, 10, 5, 11, 51, 52] (by decide +kernel) (by decide +kernel)
set_option maxRecDepth 20000 in
theorem gX6_keep_X6_stateAt : GoodIn wsX6_keep (wsV RX6 26 RX6 yX6_stateAt wsX6_stateAt) := goodIn_app (goodIn_of _ (by decide +kernel)) ggX6_keep_X6_stateAt
set_option maxRecDepth 20000 in
theorem ggX6_keep_X7_copyFrom : GoodIn wsX6_keep wsX7_copyFrom := goodIn_r _ [16, 17, 18, 19, 20, 21, 22, 23, 24, 25, 26, 27, 28, 29, 30, 31, 32, 33, 34, 35, 36, 37, 38, 39, 40, 41, 42, 43, 44, 45, 46, 47, 48, 49, 50, 53, 54, 55, 56, 57, 58, 59, 60, 61, 62, 63, 64, 65, 66, 67, 68, 69, 70] (by decide +kernel) (by decide +kernel)
set_option maxRecDepth 20000 in
theorem gX6_keep_X7_copyFrom : GoodIn wsX6_keep (wsV RX6 30 RX7 yX7_copyFrom wsX7_copyFrom) := goodIn_app (goodIn_of _ (by decide +kernel)) ggX6_keep_X7_copyFrom
theorem dX6_keep_0 : decode cX6_keep 0 = .ok (.aload_n 0, 1) := by decide +kernel
theorem dX6_keep_1 : decode cX6_keep 1 = .ok (.iload_n 1, 1) := by decide +kernel
theorem dX6_keep_2 : decode cX6_keep 2 = .ok (.invokevirtual 26, 3) := by decide +kernel
theorem dX6_keep_5 : decode cX6_keep 5 = .ok (.astore_n 3, 1) := by decide +kernel
theorem dX6_keep_6 : decode cX6_keep 6 = .ok (.aload_n 3, 1) := by decide +kernel
theorem dX6_keep_7 : decode cX6_keep 7 = .ok (.ifnull 20, 3) := by decide +kernel
theorem dX6_keep_10 : decode cX6_keep 10 = .ok (.aload_n 3, 1) := by decide +kernel
theorem dX6_keep_11 : decode cX6_keep 11 = .ok (.aload_n 2, 1) := by decide +kernel
theorem dX6_keep_12 : decode cX6_keep 12 = .ok (.invokevirtual 30, 3) := by decide +kernel
theorem dX6_keep_15 : decode cX6_keep 15 = .ok (.aload_n 0, 1) := by decide +kernel
theorem dX6_keep_16 : decode cX6_keep 16 = .ok (.dup, 1) := by decide +kernel
theorem dX6_keep_17 : decode cX6_keep 17 = .ok (.getfield 22, 3) := by decide +kernel
theorem dX6_keep_20 : decode cX6_keep 20 = .ok (.iconst 1, 1) := by decide +kernel
theorem dX6_keep_21 : decode cX6_keep 21 = .ok (.iload_n 1, 1) := by decide +kernel
theorem dX6_keep_22 : decode cX6_keep 22 = .ok (.ishl, 1) := by decide +kernel
theorem dX6_keep_23 : decode cX6_keep 23 = .ok (.ior, 1) := by decide +kernel
theorem dX6_keep_24 : decode cX6_keep 24 = .ok (.putfield 22, 3) := by decide +kernel
theorem dX6_keep_27 : decode cX6_keep 27 = .ok (.return_, 1) := by decide +kernel
set_option maxRecDepth 20000 in
theorem ggX6_giveBack_X6_stateAt : GoodIn wsX6_giveBack wsX6_stateAt := goodIn_r _ [5, 6, 7, 8, 9, 4, 10, 50, 51] (by decide +kernel) (by decide +kernel)
set_option maxRecDepth 20000 in
theorem gX6_giveBack_X6_stateAt : GoodIn wsX6_giveBack (wsV RX6 26 RX6 yX6_stateAt wsX6_stateAt) := goodIn_app (goodIn_of _ (by decide +kernel)) ggX6_giveBack_X6_stateAt
set_option maxRecDepth 20000 in
theorem ggX6_giveBack_X7_copyFrom : GoodIn wsX6_giveBack wsX7_copyFrom := goodIn_r _ [15, 16, 17, 18, 19, 20, 21, 22, 23, 24, 25, 26, 27, 28, 29, 30, 31, 32, 33, 34, 35, 36, 37, 38, 39, 40, 41, 42, 43, 44, 45, 46, 47, 48, 49, 52, 53, 54, 55, 56, 57, 58, 59, 60, 61, 62, 63, 64, 65, 66, 67, 68, 69] (by decide +kernel) (by decide +kernel)
set_option maxRecDepth 20000 in
theorem gX6_giveBack_X7_copyFrom : GoodIn wsX6_giveBack (wsV RX6 30 RX7 yX7_copyFrom wsX7_copyFrom) := goodIn_app (goodIn_of _ (by decide +kernel)) ggX6_giveBack_X7_copyFrom
theorem dX6_giveBack_0 : decode cX6_giveBack 0 = .ok (.aload_n 0, 1) := by decide +kernel
theorem dX6_giveBack_1 : decode cX6_giveBack 1 = .ok (.iload_n 1, 1) := by decide +kernel
theorem dX6_giveBack_2 : decode cX6_giveBack 2 = .ok (.invokevirtual 26, 3) := by decide +kernel
theorem dX6_giveBack_5 : decode cX6_giveBack 5 = .ok (.astore_n 3, 1) := by decide +kernel
theorem dX6_giveBack_6 : decode cX6_giveBack 6 = .ok (.aload_n 3, 1) := by decide +kernel
theorem dX6_giveBack_7 : decode cX6_giveBack 7 = .ok (.ifnull 8, 3) := by decide +kernel
theorem dX6_giveBack_10 : decode cX6_giveBack 10 = .ok (.aload_n 2, 1) := by decide +kernel
theorem dX6_giveBack_11 : decode cX6_giveBack 11 = .ok (.aload_n 3, 1) := by decide +kernel
theorem dX6_giveBack_12 : decode cX6_giveBack 12 = .ok (.invokevirtual 30, 3) := by decide +kernel
theorem dX6_giveBack_15 : decode cX6_giveBack 15 = .ok (.return_, 1) := by decide +kernel
theorem dX6_emptyAll_0 : decode cX6_emptyAll 0 = .ok (.aload_n 0, 1) := by decide +kernel
theorem dX6_emptyAll_1 : decode cX6_emptyAll 1 = .ok (.iconst 0, 1) := by decide +kernel
theorem dX6_emptyAll_2 : decode cX6_emptyAll 2 = .ok (.putfield 22, 3) := by decide +kernel
theorem dX6_emptyAll_5 : decode cX6_emptyAll 5 = .ok (.return_, 1) := by decide +kernel
set_option maxRecDepth 20000 in
theorem ggX7_init_X4_init : GoodIn wsX7_init wsX4_init := goodIn_r _ [15, 16, 2, 3, 12, 17, 18, 19, 20, 21, 52, 53, 54, 55, 56, 57] (by decide +kernel) (by decide +kernel)
set_option maxRecDepth 20000 in
theorem gX7_init_X4_init_n11 : GoodIn wsX7_init (wsX4_init) := ggX7_init_X4_init
set_option maxRecDepth 20000 in
theorem ggX7_init_X0_init : GoodIn wsX7_init wsX0_init := goodIn_r _ [23, 24, 2, 3, 12, 25, 26, 27, 65, 66, 67, 68, 69] (by decide +kernel) (by decide +kernel)
set_option maxRecDepth 20000 in
theorem gX7_init_X0_init_n20 : GoodIn wsX7_init (wsX0_init) := ggX7_init_X0_init
set_option maxRecDepth 20000 in
theorem ggX7_init_X7_clear : GoodIn wsX7_init wsX7_clear := goodIn_r _ [32, 7, 11, 13, 33, 34, 35, 36, 37, 38, 39, 6, 40, 41, 42, 43, 44, 10, 45, 46, 47, 48, 49, 50, 51, 58, 59, 60, 61, 62, 63, 64, 52, 53, 54, 55, 56, 57, 65, 66, 67, 68, 69] (by decide +kernel) (by decide +kernel)
set_option maxRecDepth 20000 in
theorem gX7_init_X7_clear : GoodIn wsX7_init (wsV RX7 29 RX7 yX7_clear wsX7_clear) := goodIn_app (goodIn_of _ (by decide +kernel)) ggX7_init_X7_clear
theorem dX7_init_0 : decode cX7_init 0 = .ok (.aload_n 0, 1) := by decide +kernel
theorem dX7_init_1 : decode cX7_init 1 = .ok (.invokespecial 3, 3) := by decide +kernel
theorem dX7_init_4 : decode cX7_init 4 = .ok (.aload_n 0, 1) := by decide +kernel
theorem dX7_init_5 : decode cX7_init 5 = .ok (.new 9, 3) := by decide +kernel
theorem dX7_init_8 : decode cX7_init 8 = .ok (.dup, 1) := by decide +kernel
theorem dX7_init_9 : decode cX7_init 9 = .ok (.invokespecial 11, 3) := by decide +kernel
theorem dX7_init_12 : decode cX7_init 12 = .ok (.putfield 12, 3) := by decide +kernel
theorem dX7_init_15 : decode cX7_init 15 = .ok (.aload_n 0, 1) := by decide +kernel
theorem dX7_init_16 : decode cX7_init 16 = .ok (.new 18, 3) := by decide +kernel
theorem dX7_init_19 : decode cX7_init 19 = .ok (.dup, 1) := by decide +kernel
theorem dX7_init_20 : decode cX7_init 20 = .ok (.invokespecial 20, 3) := by decide +kernel
theorem dX7_init_23 : decode cX7_init 23 = .ok (.putfield 21, 3) := by decide +kernel
theorem dX7_init_26 : decode cX7_init 26 = .ok (.aload_n 0, 1) := by decide +kernel
theorem dX7_init_27 : decode cX7_init 27 = .ok (.bipush 54, 2) := by decide +kernel
theorem dX7_init_29 : decode cX7_init 29 = .ok (.newarray .int, 2) := by decide +kernel
theorem dX7_init_31 : decode cX7_init 31 = .ok (.putfield 25, 3) := by decide +kernel
theorem dX7_init_34 : decode cX7_init 34 = .ok (.aload_n 0, 1) := by decide +kernel
theorem dX7_init_35 : decode cX7_init 35 = .ok (.iconst 4, 1) := by decide +kernel
theorem dX7_init_36 : decode cX7_init 36 = .ok (.invokevirtual 29, 3) := by decide +kernel
theorem dX7_init_39 : decode cX7_init 39 = .ok (.return_, 1) := by decide +kernel
set_option maxRecDepth 20000 in
theorem ggX7_clear_X4_clear : GoodIn wsX7_clear wsX4_clear := goodIn_r _ [12, 13, 32, 33, 34, 35, 36, 37] (by decide +kernel) (by decide +kernel)
set_option maxRecDepth 20000 in
theorem gX7_clear_X4_clear : GoodIn wsX7_clear (wsV RX7 33 RX4 yX4_clear wsX4_clear) := goodIn_app (goodIn_of _ (by decide +kernel)) ggX7_clear_X4_clear
set_option maxRecDepth 20000 in
theorem ggX7_clear_X0_clear : GoodIn wsX7_clear wsX0_clear := goodIn_r _ [18, 19, 20, 38, 39, 40, 41, 42] (by decide +kernel) (by decide +kernel)
set_option maxRecDepth 20000 in
theorem gX7_clear_X0_clear : GoodIn wsX7_clear (wsV RX7 35 RX0 yX0_clear wsX0_clear) := goodIn_app (goodIn_of _ (by decide +kernel)) ggX7_clear_X0_clear
set_option maxRecDepth 20000 in
theorem ggX7_clear_J7_fill_53178 : GoodIn wsX7_clear wsJ7_fill_53178 := goodIn_r _ [24] (by decide +kernel) (by decide +kernel)
set_option maxRecDepth 20000 in
theorem gX7_clear_J7_fill_53178 : GoodIn wsX7_clear (va_wsS RX7 36 yJ7_fill_53178 wsJ7_fill_53178) := goodIn_app (goodIn_of _ (by decide +kernel)) ggX7_clear_J7_fill_53178
theorem dX7_clear_0 : decode cX7_clear 0 = .ok (.aload_n 0, 1) := by decide +kernel
theorem dX7_clear_1 : decode cX7_clear 1 = .ok (.getfield 12, 3) := by decide +kernel
theorem dX7_clear_4 : decode cX7_clear 4 = .ok (.invokevirtual 33, 3) := by decide +kernel
theorem dX7_clear_7 : decode cX7_clear 7 = .ok (.aload_n 0, 1) := by decide +kernel
theorem dX7_clear_8 : decode cX7_clear 8 = .ok (.getfield 21, 3) := by decide +kernel
theorem dX7_clear_11 : decode cX7_clear 11 = .ok (.invokevirtual 35, 3) := by decide +kernel
theorem dX7_clear_14 : decode cX7_clear 14 = .ok (.aload_n 0, 1) := by decide +kernel
theorem dX7_clear_15 : decode cX7_clear 15 = .ok (.getfield 25, 3) := by decide +kernel
theorem dX7_clear_18 : decode cX7_clear 18 = .ok (.bipush (-9), 2) := by decide +kernel
theorem dX7_clear_20 : decode cX7_clear 20 = .ok (.invokestatic 36, 3) := by decide +kernel
theorem dX7_clear_23 : decode cX7_clear 23 = .ok (.aload_n 0, 1) := by decide +kernel
theorem dX7_clear_24 : decode cX7_clear 24 = .ok (.iload_n 1, 1) := by decide +kernel
theorem dX7_clear_25 : decode cX7_clear 25 = .ok (.putfield 42, 3) := by decide +kernel
theorem dX7_clear_28 : decode cX7_clear 28 = .ok (.aload_n 0, 1) := by decide +kernel
theorem dX7_clear_29 : decode cX7_clear 29 = .ok (.iconst 1, 1) := by decide +kernel
theorem dX7_clear_30 : decode cX7_clear 30 = .ok (.putfield 46, 3) := by decide +kernel
theorem dX7_clear_33 : decode cX7_clear 33 = .ok (.aload_n 0, 1) := by decide +kernel
theorem dX7_clear_34 : decode cX7_clear 34 = .ok (.iconst 2, 1) := by decide +kernel
theorem dX7_clear_35 : decode cX7_clear 35 = .ok (.putfield 49, 3) := by decide +kernel
theorem dX7_clear_38 : decode cX7_clear 38 = .ok (.aload_n 0, 1) := by decide +kernel
theorem dX7_clear_39 : decode cX7_clear 39 = .ok (.lconst 1, 1) := by decide +kernel
theorem dX7_clear_40 : decode cX7_clear 40 = .ok (.putfield 52, 3) := by decide +kernel
theorem dX7_clear_43 : decode cX7_clear 43 = .ok (.return_, 1) := by decide +kernel
set_option maxRecDepth 20000 in
theorem ggX7_copyFrom_X4_copyFrom : GoodIn wsX7_copyFrom wsX4_copyFrom := goodIn_r _ [16, 17, 18, 5, 6, 7, 19, 20, 21, 22, 23, 42, 43, 44, 45, 46, 47] (by decide +kernel) (by decide +kernel)
set_option maxRecDepth 20000 in
theorem gX7_copyFrom_X4_copyFrom : GoodIn wsX7_copyFrom (wsV RX7 56 RX4 yX4_copyFrom wsX4_copyFrom) := goodIn_app (goodIn_of _ (by decide +kernel)) ggX7_copyFrom_X4_copyFrom
set_option maxRecDepth 20000 in
theorem ggX7_copyFrom_X0_copyFrom : GoodIn wsX7_copyFrom wsX0_copyFrom := goodIn_r _ [28, 29, 30, 5, 6, 7, 31, 32, 33, 34, 48, 49, 50, 51, 52] (by decide +kernel) (by decide +kernel)
set_option maxRecDepth 20000 in
theorem gX7_copyFrom_X0_copyFrom : GoodIn wsX7_copyFrom (wsV RX7 60 RX0 yX0_copyFrom wsX0_copyFrom) := goodIn_app (goodIn_of _ (by decide +kernel)) ggX7_copyFrom_X0_copyFrom
theorem dX7_copyFrom_0 : decode cX7_copyFrom 0 = .ok (.aload_n 0, 1) := by decide +kernel
theorem dX7_copyFrom_1 : decode cX7_copyFrom 1 = .ok (.getfield 12, 3) := by decide +kernel
theorem dX7_copyFrom_4 : decode cX7_copyFrom 4 = .ok (.aload_n 1, 1) := by decide +kernel
theorem dX7_copyFrom_5 : decode cX7_copyFrom 5 = .ok (.getfield 12, 3) := by decide +kernel
theorem dX7_copyFrom_8 : decode cX7_copyFrom 8 = .ok (.invokevirtual 56, 3) := by decide +kernel
theorem dX7_copyFrom_11 : decode cX7_copyFrom 11 = .ok (.aload_n 0, 1) := by decide +kernel
theorem dX7_copyFrom_12 : decode cX7_copyFrom 12 = .ok (.getfield 21, 3) := by decide +kernel
theorem dX7_copyFrom_15 : decode cX7_copyFrom 15 = .ok (.aload_n 1, 1) := by decide +kernel
theorem dX7_copyFrom_16 : decode cX7_copyFrom 16 = .ok (.getfield 21, 3) := by decide +kernel
theorem dX7_copyFrom_19 : decode cX7_copyFrom 19 = .ok (.invokevirtual 60, 3) := by decide +kernel
theorem dX7_copyFrom_22 : decode cX7_copyFrom 22 = .ok (.aload_n 1, 1) := by decide +kernel
theorem dX7_copyFrom_23 : decode cX7_copyFrom 23 = .ok (.getfield 25, 3) := by decide +kernel
theorem dX7_copyFrom_26 : decode cX7_copyFrom 26 = .ok (.iconst 0, 1) := by decide +kernel
theorem dX7_copyFrom_27 : decode cX7_copyFrom 27 = .ok (.aload_n 0, 1) := by decide +kernel
theorem dX7_copyFrom_28 : decode cX7_copyFrom 28 = .ok (.getfield 25, 3) := by decide +kernel
theorem dX7_copyFrom_31 : decode cX7_copyFrom 31 = .ok (.iconst 0, 1) := by decide +kernel
theorem dX7_copyFrom_32 : decode cX7_copyFrom 32 = .ok (.bipush 54, 2) := by decide +kernel
theorem dX7_copyFrom_34 : decode cX7_copyFrom 34 = .ok (.invokestatic 63, 3) := by decide +kernel
theorem dX7_copyFrom_37 : decode cX7_copyFrom 37 = .ok (.aload_n 0, 1) := by decide +kernel
theorem dX7_copyFrom_38 : decode cX7_copyFrom 38 = .ok (.aload_n 1, 1) := by decide +kernel
theorem dX7_copyFrom_39 : decode cX7_copyFrom 39 = .ok (.getfield 42, 3) := by decide +kernel
theorem dX7_copyFrom_42 : decode cX7_copyFrom 42 = .ok (.putfield 42, 3) := by decide +kernel
theorem dX7_copyFrom_45 : decode cX7_copyFrom 45 = .ok (.aload_n 0, 1) := by decide +kernel
theorem dX7_copyFrom_46 : decode cX7_copyFrom 46 = .ok (.aload_n 1, 1) := by decide +kernel
theorem dX7_copyFrom_47 : decode cX7_copyFrom 47 = .ok (.getfield 46, 3) := by decide +kernel
theorem dX7_copyFrom_50 : decode cX7_copyFrom 50 = .ok (.putfield 46, 3) := by decide +kernel
theorem dX7_copyFrom_53 : decode cX7_copyFrom 53 = .ok (.aload_n 0, 1) := by decide +kernel
theorem dX7_copyFrom_54 : decode cX7_copyFrom 54 = .ok (.aload_n 1, 1) := by decide +kernel
theorem dX7_copyFrom_55 : decode cX7_copyFrom 55 = .ok (.getfield 49, 3) := by decide +kernel
theorem dX7_copyFrom_58 : decode cX7_copyFrom 58 = .ok (.putfield 49, 3) := by decide +kernel
theorem dX7_copyFrom_61 : decode cX7_copyFrom 61 = .ok (.aload_n 0, 1) := by decide +kernel
theorem dX7_copyFrom_62 : decode cX7_copyFrom 62 = .ok (.aload_n 1, 1) := by decide +kernel
theorem dX7_copyFrom_63 : decode cX7_copyFrom 63 = .ok (.getfield 52, 3) := by decide +kernel
theorem dX7_copyFrom_66 : decode cX7_copyFrom 66 = .ok (.putfield 52, 3) := by decide +kernel
theorem dX7_copyFrom_69 : decode cX7_copyFrom 69 = .ok (.return_, 1) := by decide +kernel
theorem dX7_houses_0 : decode cX7_houses 0 = .ok (.aload_n 0, 1) := by decide +kernel
theorem dX7_houses_1 : decode cX7_houses 1 = .ok (.getfield 42, 3) := by decide +kernel
theorem dX7_houses_4 : decode cX7_houses 4 = .ok (.ireturn, 1) := by decide +kernel
theorem dX7_noise_0 : decode cX7_noise 0 = .ok (.aload_n 0, 1) := by decide +kernel
theorem dX7_noise_1 : decode cX7_noise 1 = .ok (.getfield 46, 3) := by decide +kernel
theorem dX7_noise_4 : decode cX7_noise 4 = .ok (.ireturn, 1) := by decide +kernel
theorem dX7_reach_0 : decode cX7_reach 0 = .ok (.aload_n 0, 1) := by decide +kernel
theorem dX7_reach_1 : decode cX7_reach 1 = .ok (.getfield 49, 3) := by decide +kernel
theorem dX7_reach_4 : decode cX7_reach 4 = .ok (.ireturn, 1) := by decide +kernel
theorem dX7_hasHouse_0 : decode cX7_hasHouse 0 = .ok (.iload_n 1, 1) := by decide +kernel
theorem dX7_hasHouse_1 : decode cX7_hasHouse 1 = .ok (.ifCond .lt 21, 3) := by decide +kernel
theorem dX7_hasHouse_4 : decode cX7_hasHouse 4 = .ok (.iload_n 1, 1) := by decide +kernel
theorem dX7_hasHouse_5 : decode cX7_hasHouse 5 = .ok (.aload_n 0, 1) := by decide +kernel
theorem dX7_hasHouse_6 : decode cX7_hasHouse 6 = .ok (.getfield 42, 3) := by decide +kernel
theorem dX7_hasHouse_9 : decode cX7_hasHouse 9 = .ok (.if_icmp .ge 13, 3) := by decide +kernel
theorem dX7_hasHouse_12 : decode cX7_hasHouse 12 = .ok (.iload_n 1, 1) := by decide +kernel
theorem dX7_hasHouse_13 : decode cX7_hasHouse 13 = .ok (.bipush 9, 2) := by decide +kernel
theorem dX7_hasHouse_15 : decode cX7_hasHouse 15 = .ok (.if_icmp .ge 7, 3) := by decide +kernel
theorem dX7_hasHouse_18 : decode cX7_hasHouse 18 = .ok (.iconst 1, 1) := by decide +kernel
theorem dX7_hasHouse_19 : decode cX7_hasHouse 19 = .ok (.goto 4, 3) := by decide +kernel
theorem dX7_hasHouse_22 : decode cX7_hasHouse 22 = .ok (.iconst 0, 1) := by decide +kernel
theorem dX7_hasHouse_23 : decode cX7_hasHouse 23 = .ok (.ireturn, 1) := by decide +kernel
theorem dX7_hasKey_0 : decode cX7_hasKey 0 = .ok (.iload_n 1, 1) := by decide +kernel
theorem dX7_hasKey_1 : decode cX7_hasKey 1 = .ok (.ifCond .lt 31, 3) := by decide +kernel
theorem dX7_hasKey_4 : decode cX7_hasKey 4 = .ok (.iload_n 1, 1) := by decide +kernel
theorem dX7_hasKey_5 : decode cX7_hasKey 5 = .ok (.aload_n 0, 1) := by decide +kernel
theorem dX7_hasKey_6 : decode cX7_hasKey 6 = .ok (.getfield 42, 3) := by decide +kernel
theorem dX7_hasKey_9 : decode cX7_hasKey 9 = .ok (.if_icmp .ge 23, 3) := by decide +kernel
theorem dX7_hasKey_12 : decode cX7_hasKey 12 = .ok (.iload_n 1, 1) := by decide +kernel
theorem dX7_hasKey_13 : decode cX7_hasKey 13 = .ok (.bipush 9, 2) := by decide +kernel
theorem dX7_hasKey_15 : decode cX7_hasKey 15 = .ok (.if_icmp .ge 17, 3) := by decide +kernel
theorem dX7_hasKey_18 : decode cX7_hasKey 18 = .ok (.iload_n 2, 1) := by decide +kernel
theorem dX7_hasKey_19 : decode cX7_hasKey 19 = .ok (.ifCond .lt 13, 3) := by decide +kernel
theorem dX7_hasKey_22 : decode cX7_hasKey 22 = .ok (.iload_n 2, 1) := by decide +kernel
theorem dX7_hasKey_23 : decode cX7_hasKey 23 = .ok (.bipush 6, 2) := by decide +kernel
theorem dX7_hasKey_25 : decode cX7_hasKey 25 = .ok (.if_icmp .ge 7, 3) := by decide +kernel
theorem dX7_hasKey_28 : decode cX7_hasKey 28 = .ok (.iconst 1, 1) := by decide +kernel
theorem dX7_hasKey_29 : decode cX7_hasKey 29 = .ok (.goto 4, 3) := by decide +kernel
theorem dX7_hasKey_32 : decode cX7_hasKey 32 = .ok (.iconst 0, 1) := by decide +kernel
theorem dX7_hasKey_33 : decode cX7_hasKey 33 = .ok (.ireturn, 1) := by decide +kernel
set_option maxRecDepth 20000 in
theorem ggX7_hasCode_X7_recordOf : GoodIn wsX7_hasCode wsX7_recordOf := goodIn_r _ [5, 6, 7, 8, 9, 4, 10, 11, 12, 13, 14, 15, 16, 17, 18] (by decide +kernel) (by decide +kernel)
set_option maxRecDepth 20000 in
theorem gX7_hasCode_X7_recordOf : GoodIn wsX7_hasCode (wsV RX7 69 RX7 yX7_recordOf wsX7_recordOf) := goodIn_app (goodIn_of _ (by decide +kernel)) ggX7_hasCode_X7_recordOf
theorem dX7_hasCode_0 : decode cX7_hasCode 0 = .ok (.aload_n 0, 1) := by decide +kernel
theorem dX7_hasCode_1 : decode cX7_hasCode 1 = .ok (.iload_n 1, 1) := by decide +kernel
theorem dX7_hasCode_2 : decode cX7_hasCode 2 = .ok (.iload_n 2, 1) := by decide +kernel
theorem dX7_hasCode_3 : decode cX7_hasCode 3 = .ok (.invokevirtual 69, 3) := by decide +kernel
theorem dX7_hasCode_6 : decode cX7_hasCode 6 = .ok (.bipush (-9), 2) := by decide +kernel
theorem dX7_hasCode_8 : decode cX7_hasCode 8 = .ok (.if_icmp .eq 7, 3) := by decide +kernel
theorem dX7_hasCode_11 : decode cX7_hasCode 11 = .ok (.iconst 1, 1) := by decide +kernel
theorem dX7_hasCode_12 : decode cX7_hasCode 12 = .ok (.goto 4, 3) := by decide +kernel
theorem dX7_hasCode_15 : decode cX7_hasCode 15 = .ok (.iconst 0, 1) := by decide +kernel
theorem dX7_hasCode_16 : decode cX7_hasCode 16 = .ok (.ireturn, 1) := by decide +kernel
set_option maxRecDepth 20000 in
theorem ggX7_recordOf_X7_hasKey : GoodIn wsX7_recordOf wsX7_hasKey := goodIn_r _ [6, 7, 8, 9, 10, 11, 12, 13, 14] (by decide +kernel) (by decide +kernel)
set_option maxRecDepth 20000 in
theorem gX7_recordOf_X7_hasKey : GoodIn wsX7_recordOf (wsV RX7 73 RX7 yX7_hasKey wsX7_hasKey) := goodIn_app (goodIn_of _ (by decide +kernel)) ggX7_recordOf_X7_hasKey
theorem dX7_recordOf_0 : decode cX7_recordOf 0 = .ok (.aload_n 0, 1) := by decide +kernel
theorem dX7_recordOf_1 : decode cX7_recordOf 1 = .ok (.iload_n 1, 1) := by decide +kernel
theorem dX7_recordOf_2 : decode cX7_recordOf 2 = .ok (.iload_n 2, 1) := by decide +kernel
theorem dX7_recordOf_3 : decode cX7_recordOf 3 = .ok (.invokevirtual 73, 3) := by decide +kernel
theorem dX7_recordOf_6 : decode cX7_recordOf 6 = .ok (.ifCond .eq 17, 3) := by decide +kernel
theorem dX7_recordOf_9 : decode cX7_recordOf 9 = .ok (.aload_n 0, 1) := by decide +kernel
theorem dX7_recordOf_10 : decode cX7_recordOf 10 = .ok (.getfield 25, 3) := by decide +kernel
theorem dX7_recordOf_13 : decode cX7_recordOf 13 = .ok (.iload_n 1, 1) := by decide +kernel
theorem dX7_recordOf_14 : decode cX7_recordOf 14 = .ok (.bipush 6, 2) := by decide +kernel
theorem dX7_recordOf_16 : decode cX7_recordOf 16 = .ok (.imul, 1) := by decide +kernel
theorem dX7_recordOf_17 : decode cX7_recordOf 17 = .ok (.iload_n 2, 1) := by decide +kernel
theorem dX7_recordOf_18 : decode cX7_recordOf 18 = .ok (.iadd, 1) := by decide +kernel
theorem dX7_recordOf_19 : decode cX7_recordOf 19 = .ok (.iaload, 1) := by decide +kernel
theorem dX7_recordOf_20 : decode cX7_recordOf 20 = .ok (.goto 5, 3) := by decide +kernel
theorem dX7_recordOf_23 : decode cX7_recordOf 23 = .ok (.bipush (-9), 2) := by decide +kernel
theorem dX7_recordOf_25 : decode cX7_recordOf 25 = .ok (.ireturn, 1) := by decide +kernel
set_option maxRecDepth 20000 in
theorem ggX7_codeOf_X7_recordOf : GoodIn wsX7_codeOf wsX7_recordOf := goodIn_r _ [6, 7, 8, 9, 10, 5, 11, 12, 24, 25, 26, 27, 28, 29, 30] (by decide +kernel) (by decide +kernel)
set_option maxRecDepth 20000 in
theorem gX7_codeOf_X7_recordOf : GoodIn wsX7_codeOf (wsV RX7 69 RX7 yX7_recordOf wsX7_recordOf) := goodIn_app (goodIn_of _ (by decide +kernel)) ggX7_codeOf_X7_recordOf
set_option maxRecDepth 20000 in
theorem ggX7_codeOf_X4_codeOf : GoodIn wsX7_codeOf wsX4_codeOf := goodIn_r _ [17, 18, 19, 20, 21, 16, 22, 23, 31, 32, 33, 34, 35, 36] (by decide +kernel) (by decide +kernel)
set_option maxRecDepth 20000 in
theorem gX7_codeOf_X4_codeOf : GoodIn wsX7_codeOf (wsV RX7 77 RX4 yX4_codeOf wsX4_codeOf) := goodIn_app (goodIn_of _ (by decide +kernel)) ggX7_codeOf_X4_codeOf
theorem dX7_codeOf_0 : decode cX7_codeOf 0 = .ok (.aload_n 0, 1) := by decide +kernel
theorem dX7_codeOf_1 : decode cX7_codeOf 1 = .ok (.getfield 12, 3) := by decide +kernel
theorem dX7_codeOf_4 : decode cX7_codeOf 4 = .ok (.aload_n 0, 1) := by decide +kernel
theorem dX7_codeOf_5 : decode cX7_codeOf 5 = .ok (.iload_n 1, 1) := by decide +kernel
theorem dX7_codeOf_6 : decode cX7_codeOf 6 = .ok (.iload_n 2, 1) := by decide +kernel
theorem dX7_codeOf_7 : decode cX7_codeOf 7 = .ok (.invokevirtual 69, 3) := by decide +kernel
theorem dX7_codeOf_10 : decode cX7_codeOf 10 = .ok (.invokevirtual 77, 3) := by decide +kernel
theorem dX7_codeOf_13 : decode cX7_codeOf 13 = .ok (.ireturn, 1) := by decide +kernel
set_option maxRecDepth 20000 in
theorem ggX7_giveRecord_X7_hasKey : GoodIn wsX7_giveRecord wsX7_hasKey := goodIn_r _ [6, 7, 8, 9, 10, 11, 12, 13, 14] (by decide +kernel) (by decide +kernel)
set_option maxRecDepth 20000 in
theorem gX7_giveRecord_X7_hasKey : GoodIn wsX7_giveRecord (wsV RX7 73 RX7 yX7_hasKey wsX7_hasKey) := goodIn_app (goodIn_of _ (by decide +kernel)) ggX7_giveRecord_X7_hasKey
theorem dX7_giveRecord_0 : decode cX7_giveRecord 0 = .ok (.aload_n 0, 1) := by decide +kernel
theorem dX7_giveRecord_1 : decode cX7_giveRecord 1 = .ok (.iload_n 1, 1) := by decide +kernel
theorem dX7_giveRecord_2 : decode cX7_giveRecord 2 = .ok (.iload_n 2, 1) := by decide +kernel
theorem dX7_giveRecord_3 : decode cX7_giveRecord 3 = .ok (.invokevirtual 73, 3) := by decide +kernel
theorem dX7_giveRecord_6 : decode cX7_giveRecord 6 = .ok (.ifCond .eq 15, 3) := by decide +kernel
theorem dX7_giveRecord_9 : decode cX7_giveRecord 9 = .ok (.aload_n 0, 1) := by decide +kernel
theorem dX7_giveRecord_10 : decode cX7_giveRecord 10 = .ok (.getfield 25, 3) := by decide +kernel
theorem dX7_giveRecord_13 : decode cX7_giveRecord 13 = .ok (.iload_n 1, 1) := by decide +kernel
theorem dX7_giveRecord_14 : decode cX7_giveRecord 14 = .ok (.bipush 6, 2) := by decide +kernel
theorem dX7_giveRecord_16 : decode cX7_giveRecord 16 = .ok (.imul, 1) := by decide +kernel
theorem dX7_giveRecord_17 : decode cX7_giveRecord 17 = .ok (.iload_n 2, 1) := by decide +kernel
theorem dX7_giveRecord_18 : decode cX7_giveRecord 18 = .ok (.iadd, 1) := by decide +kernel
theorem dX7_giveRecord_19 : decode cX7_giveRecord 19 = .ok (.iload_n 3, 1) := by decide +kernel
theorem dX7_giveRecord_20 : decode cX7_giveRecord 20 = .ok (.iastore, 1) := by decide +kernel
theorem dX7_giveRecord_21 : decode cX7_giveRecord 21 = .ok (.return_, 1) := by decide +kernel
set_option maxRecDepth 20000 in
theorem ggX7_differentRoots_X4_rootOf : GoodIn wsX7_differentRoots wsX4_rootOf := goodIn_r _ [7, 8, 9, 10, 6, 11, 12, 13, 14, 15, 16, 17, 18, 19, 20, 21, 22, 23, 24, 25, 26, 27, 28, 29, 44, 45, 46, 47, 48, 49] (by decide +kernel) (by decide +kernel)
set_option maxRecDepth 20000 in
theorem gX7_differentRoots_X4_rootOf : GoodIn wsX7_differentRoots (wsV RX7 81 RX4 yX4_rootOf wsX4_rootOf) := goodIn_app (goodIn_of _ (by decide +kernel)) ggX7_differentRoots_X4_rootOf
set_option maxRecDepth 20000 in
theorem ggX7_differentRoots_J13_bitCount_95d88 : GoodIn wsX7_differentRoots wsJ13_bitCount_95d88 := goodIn_r _ [33, 34, 35, 36] (by decide +kernel) (by decide +kernel)
set_option maxRecDepth 20000 in
theorem gX7_differentRoots_J13_bitCount_95d88 : GoodIn wsX7_differentRoots (va_wsS RX7 84 yJ13_bitCount_95d88 wsJ13_bitCount_95d88) := goodIn_app (goodIn_of _ (by decide +kernel)) ggX7_differentRoots_J13_bitCount_95d88
theorem dX7_differentRoots_0 : decode cX7_differentRoots 0 = .ok (.lconst 0, 1) := by decide +kernel
theorem dX7_differentRoots_1 : decode cX7_differentRoots 1 = .ok (.lstore_n 1, 1) := by decide +kernel
theorem dX7_differentRoots_2 : decode cX7_differentRoots 2 = .ok (.aload_n 0, 1) := by decide +kernel
theorem dX7_differentRoots_3 : decode cX7_differentRoots 3 = .ok (.getfield 25, 3) := by decide +kernel
theorem dX7_differentRoots_6 : decode cX7_differentRoots 6 = .ok (.astore_n 3, 1) := by decide +kernel
theorem dX7_differentRoots_7 : decode cX7_differentRoots 7 = .ok (.aload_n 3, 1) := by decide +kernel
theorem dX7_differentRoots_8 : decode cX7_differentRoots 8 = .ok (.arraylength, 1) := by decide +kernel
theorem dX7_differentRoots_9 : decode cX7_differentRoots 9 = .ok (.istore 4, 2) := by decide +kernel
theorem dX7_differentRoots_11 : decode cX7_differentRoots 11 = .ok (.iconst 0, 1) := by decide +kernel
theorem dX7_differentRoots_12 : decode cX7_differentRoots 12 = .ok (.istore 5, 2) := by decide +kernel
theorem dX7_differentRoots_14 : decode cX7_differentRoots 14 = .ok (.iload 5, 2) := by decide +kernel
theorem dX7_differentRoots_16 : decode cX7_differentRoots 16 = .ok (.iload 4, 2) := by decide +kernel
theorem dX7_differentRoots_18 : decode cX7_differentRoots 18 = .ok (.if_icmp .ge 36, 3) := by decide +kernel
theorem dX7_differentRoots_21 : decode cX7_differentRoots 21 = .ok (.aload_n 3, 1) := by decide +kernel
theorem dX7_differentRoots_22 : decode cX7_differentRoots 22 = .ok (.iload 5, 2) := by decide +kernel
theorem dX7_differentRoots_24 : decode cX7_differentRoots 24 = .ok (.iaload, 1) := by decide +kernel
theorem dX7_differentRoots_25 : decode cX7_differentRoots 25 = .ok (.istore 6, 2) := by decide +kernel
theorem dX7_differentRoots_27 : decode cX7_differentRoots 27 = .ok (.iload 6, 2) := by decide +kernel
theorem dX7_differentRoots_29 : decode cX7_differentRoots 29 = .ok (.bipush (-9), 2) := by decide +kernel
theorem dX7_differentRoots_31 : decode cX7_differentRoots 31 = .ok (.if_icmp .eq 17, 3) := by decide +kernel
theorem dX7_differentRoots_34 : decode cX7_differentRoots 34 = .ok (.lload_n 1, 1) := by decide +kernel
theorem dX7_differentRoots_35 : decode cX7_differentRoots 35 = .ok (.lconst 1, 1) := by decide +kernel
theorem dX7_differentRoots_36 : decode cX7_differentRoots 36 = .ok (.aload_n 0, 1) := by decide +kernel
theorem dX7_differentRoots_37 : decode cX7_differentRoots 37 = .ok (.getfield 12, 3) := by decide +kernel
theorem dX7_differentRoots_40 : decode cX7_differentRoots 40 = .ok (.iload 6, 2) := by decide +kernel
theorem dX7_differentRoots_42 : decode cX7_differentRoots 42 = .ok (.invokevirtual 81, 3) := by decide +kernel
theorem dX7_differentRoots_45 : decode cX7_differentRoots 45 = .ok (.lshl, 1) := by decide +kernel
theorem dX7_differentRoots_46 : decode cX7_differentRoots 46 = .ok (.lor, 1) := by decide +kernel
theorem dX7_differentRoots_47 : decode cX7_differentRoots 47 = .ok (.lstore_n 1, 1) := by decide +kernel
theorem dX7_differentRoots_48 : decode cX7_differentRoots 48 = .ok (.iinc 5 1, 3) := by decide +kernel
theorem dX7_differentRoots_51 : decode cX7_differentRoots 51 = .ok (.goto (-37), 3) := by decide +kernel
theorem dX7_differentRoots_54 : decode cX7_differentRoots 54 = .ok (.lload_n 1, 1) := by decide +kernel
theorem dX7_differentRoots_55 : decode cX7_differentRoots 55 = .ok (.invokestatic 84, 3) := by decide +kernel
theorem dX7_differentRoots_58 : decode cX7_differentRoots 58 = .ok (.ireturn, 1) := by decide +kernel
set_option maxRecDepth 20000 in
theorem ggX7_keysFrom_X4_isInChain : GoodIn wsX7_keysFrom wsX4_isInChain := goodIn_r _ [7, 8, 9, 10, 6, 11, 12, 13, 14, 15, 16, 17, 25, 26, 27, 28, 29, 30] (by decide +kernel) (by decide +kernel)
set_option maxRecDepth 20000 in
theorem gX7_keysFrom_X4_isInChain : GoodIn wsX7_keysFrom (wsV RX7 90 RX4 yX4_isInChain wsX4_isInChain) := goodIn_app (goodIn_of _ (by decide +kernel)) ggX7_keysFrom_X4_isInChain
theorem dX7_keysFrom_0 : decode cX7_keysFrom 0 = .ok (.iconst 0, 1) := by decide +kernel
theorem dX7_keysFrom_1 : decode cX7_keysFrom 1 = .ok (.istore_n 2, 1) := by decide +kernel
theorem dX7_keysFrom_2 : decode cX7_keysFrom 2 = .ok (.aload_n 0, 1) := by decide +kernel
theorem dX7_keysFrom_3 : decode cX7_keysFrom 3 = .ok (.getfield 25, 3) := by decide +kernel
theorem dX7_keysFrom_6 : decode cX7_keysFrom 6 = .ok (.astore_n 3, 1) := by decide +kernel
theorem dX7_keysFrom_7 : decode cX7_keysFrom 7 = .ok (.aload_n 3, 1) := by decide +kernel
theorem dX7_keysFrom_8 : decode cX7_keysFrom 8 = .ok (.arraylength, 1) := by decide +kernel
theorem dX7_keysFrom_9 : decode cX7_keysFrom 9 = .ok (.istore 4, 2) := by decide +kernel
theorem dX7_keysFrom_11 : decode cX7_keysFrom 11 = .ok (.iconst 0, 1) := by decide +kernel
theorem dX7_keysFrom_12 : decode cX7_keysFrom 12 = .ok (.istore 5, 2) := by decide +kernel
theorem dX7_keysFrom_14 : decode cX7_keysFrom 14 = .ok (.iload 5, 2) := by decide +kernel
theorem dX7_keysFrom_16 : decode cX7_keysFrom 16 = .ok (.iload 4, 2) := by decide +kernel
theorem dX7_keysFrom_18 : decode cX7_keysFrom 18 = .ok (.if_icmp .ge 31, 3) := by decide +kernel
theorem dX7_keysFrom_21 : decode cX7_keysFrom 21 = .ok (.aload_n 3, 1) := by decide +kernel
theorem dX7_keysFrom_22 : decode cX7_keysFrom 22 = .ok (.iload 5, 2) := by decide +kernel
theorem dX7_keysFrom_24 : decode cX7_keysFrom 24 = .ok (.iaload, 1) := by decide +kernel
theorem dX7_keysFrom_25 : decode cX7_keysFrom 25 = .ok (.istore 6, 2) := by decide +kernel
theorem dX7_keysFrom_27 : decode cX7_keysFrom 27 = .ok (.aload_n 0, 1) := by decide +kernel
theorem dX7_keysFrom_28 : decode cX7_keysFrom 28 = .ok (.getfield 12, 3) := by decide +kernel
theorem dX7_keysFrom_31 : decode cX7_keysFrom 31 = .ok (.iload_n 1, 1) := by decide +kernel
theorem dX7_keysFrom_32 : decode cX7_keysFrom 32 = .ok (.iload 6, 2) := by decide +kernel
theorem dX7_keysFrom_34 : decode cX7_keysFrom 34 = .ok (.invokevirtual 90, 3) := by decide +kernel
theorem dX7_keysFrom_37 : decode cX7_keysFrom 37 = .ok (.ifCond .eq 6, 3) := by decide +kernel
theorem dX7_keysFrom_40 : decode cX7_keysFrom 40 = .ok (.iinc 2 1, 3) := by decide +kernel
theorem dX7_keysFrom_43 : decode cX7_keysFrom 43 = .ok (.iinc 5 1, 3) := by decide +kernel
theorem dX7_keysFrom_46 : decode cX7_keysFrom 46 = .ok (.goto (-32), 3) := by decide +kernel
theorem dX7_keysFrom_49 : decode cX7_keysFrom 49 = .ok (.iload_n 2, 1) := by decide +kernel
theorem dX7_keysFrom_50 : decode cX7_keysFrom 50 = .ok (.ireturn, 1) := by decide +kernel
set_option maxRecDepth 20000 in
theorem ggX7_keysAcceptedBy_X7_codeOf : GoodIn wsX7_keysAcceptedBy wsX7_codeOf := goodIn_r _ [7, 8, 9, 10, 11, 6, 12, 13, 14, 15, 16, 17, 1, 18, 19, 20, 21, 22, 23, 24, 25, 26, 27, 28, 53, 54, 55, 56, 57, 58, 59, 60, 61, 62, 63, 64, 65] (by decide +kernel) (by decide +kernel)
set_option maxRecDepth 20000 in
theorem gX7_keysAcceptedBy_X7_codeOf : GoodIn wsX7_keysAcceptedBy (wsV RX7 93 RX7 yX7_codeOf wsX7_codeOf) := goodIn_app (goodIn_of _ (by decide +kernel)) ggX7_keysAcceptedBy_X7_codeOf
set_option maxRecDepth 20000 in
theorem ggX7_keysAcceptedBy_X0_accepts : GoodIn wsX7_keysAcceptedBy wsX0_accepts := goodIn_r _ [33, 34, 35, 36, 37, 38, 39, 40, 41, 42, 43, 32, 44, 45, 46, 47, 48, 49, 50, 51, 52, 66, 67, 68, 69, 70] (by decide +kernel) (by decide +kernel)
set_option maxRecDepth 20000 in
theorem gX7_keysAcceptedBy_X0_accepts : GoodIn wsX7_keysAcceptedBy (wsV RX7 95 RX0 yX0_accepts wsX0_accepts) := goodIn_app (goodIn_of _ (by decide +kernel)) ggX7_keysAcceptedBy_X0_accepts
theorem dX7_keysAcceptedBy_0 : decode cX7_keysAcceptedBy 0 = .ok (.iconst 0, 1) := by decide +kernel
theorem dX7_keysAcceptedBy_1 : decode cX7_keysAcceptedBy 1 = .ok (.istore_n 2, 1) := by decide +kernel
theorem dX7_keysAcceptedBy_2 : decode cX7_keysAcceptedBy 2 = .ok (.iconst 0, 1) := by decide +kernel
theorem dX7_keysAcceptedBy_3 : decode cX7_keysAcceptedBy 3 = .ok (.istore_n 3, 1) := by decide +kernel
theorem dX7_keysAcceptedBy_4 : decode cX7_keysAcceptedBy 4 = .ok (.iload_n 3, 1) := by decide +kernel
theorem dX7_keysAcceptedBy_5 : decode cX7_keysAcceptedBy 5 = .ok (.aload_n 0, 1) := by decide +kernel
theorem dX7_keysAcceptedBy_6 : decode cX7_keysAcceptedBy 6 = .ok (.getfield 42, 3) := by decide +kernel
theorem dX7_keysAcceptedBy_9 : decode cX7_keysAcceptedBy 9 = .ok (.if_icmp .ge 49, 3) := by decide +kernel
theorem dX7_keysAcceptedBy_12 : decode cX7_keysAcceptedBy 12 = .ok (.iconst 0, 1) := by decide +kernel
theorem dX7_keysAcceptedBy_13 : decode cX7_keysAcceptedBy 13 = .ok (.istore 4, 2) := by decide +kernel
theorem dX7_keysAcceptedBy_15 : decode cX7_keysAcceptedBy 15 = .ok (.iload 4, 2) := by decide +kernel
theorem dX7_keysAcceptedBy_17 : decode cX7_keysAcceptedBy 17 = .ok (.bipush 6, 2) := by decide +kernel
theorem dX7_keysAcceptedBy_19 : decode cX7_keysAcceptedBy 19 = .ok (.if_icmp .ge 33, 3) := by decide +kernel
theorem dX7_keysAcceptedBy_22 : decode cX7_keysAcceptedBy 22 = .ok (.aload_n 0, 1) := by decide +kernel
theorem dX7_keysAcceptedBy_23 : decode cX7_keysAcceptedBy 23 = .ok (.getfield 21, 3) := by decide +kernel
theorem dX7_keysAcceptedBy_26 : decode cX7_keysAcceptedBy 26 = .ok (.iload_n 1, 1) := by decide +kernel
theorem dX7_keysAcceptedBy_27 : decode cX7_keysAcceptedBy 27 = .ok (.iload_n 3, 1) := by decide +kernel
theorem dX7_keysAcceptedBy_28 : decode cX7_keysAcceptedBy 28 = .ok (.aload_n 0, 1) := by decide +kernel
theorem dX7_keysAcceptedBy_29 : decode cX7_keysAcceptedBy 29 = .ok (.iload_n 3, 1) := by decide +kernel
theorem dX7_keysAcceptedBy_30 : decode cX7_keysAcceptedBy 30 = .ok (.iload 4, 2) := by decide +kernel
theorem dX7_keysAcceptedBy_32 : decode cX7_keysAcceptedBy 32 = .ok (.invokevirtual 93, 3) := by decide +kernel
theorem dX7_keysAcceptedBy_35 : decode cX7_keysAcceptedBy 35 = .ok (.bipush 8, 2) := by decide +kernel
theorem dX7_keysAcceptedBy_37 : decode cX7_keysAcceptedBy 37 = .ok (.invokevirtual 95, 3) := by decide +kernel
theorem dX7_keysAcceptedBy_40 : decode cX7_keysAcceptedBy 40 = .ok (.ifCond .eq 6, 3) := by decide +kernel
theorem dX7_keysAcceptedBy_43 : decode cX7_keysAcceptedBy 43 = .ok (.iinc 2 1, 3) := by decide +kernel
theorem dX7_keysAcceptedBy_46 : decode cX7_keysAcceptedBy 46 = .ok (.iinc 4 1, 3) := by decide +kernel
theorem dX7_keysAcceptedBy_49 : decode cX7_keysAcceptedBy 49 = .ok (.goto (-34), 3) := by decide +kernel
theorem dX7_keysAcceptedBy_52 : decode cX7_keysAcceptedBy 52 = .ok (.iinc 3 1, 3) := by decide +kernel
theorem dX7_keysAcceptedBy_55 : decode cX7_keysAcceptedBy 55 = .ok (.goto (-51), 3) := by decide +kernel
theorem dX7_keysAcceptedBy_58 : decode cX7_keysAcceptedBy 58 = .ok (.iload_n 2, 1) := by decide +kernel
theorem dX7_keysAcceptedBy_59 : decode cX7_keysAcceptedBy 59 = .ok (.ireturn, 1) := by decide +kernel
set_option maxRecDepth 20000 in
theorem ggX7_isAccepted_X7_codeOf : GoodIn wsX7_isAccepted wsX7_codeOf := goodIn_r _ [7, 8, 9, 10, 11, 6, 12, 13, 14, 15, 16, 17, 18, 19, 20, 21, 22, 23, 24, 25, 26, 27, 28, 29, 54, 55, 56, 57, 58, 59, 60, 61, 62, 63, 64, 65, 66] (by decide +kernel) (by decide +kernel)
set_option maxRecDepth 20000 in
theorem gX7_isAccepted_X7_codeOf : GoodIn wsX7_isAccepted (wsV RX7 93 RX7 yX7_codeOf wsX7_codeOf) := goodIn_app (goodIn_of _ (by decide +kernel)) ggX7_isAccepted_X7_codeOf
set_option maxRecDepth 20000 in
theorem ggX7_isAccepted_X0_accepts : GoodIn wsX7_isAccepted wsX0_accepts := goodIn_r _ [34, 35, 36, 37, 38, 39, 40, 41, 42, 43, 44, 33, 45, 46, 47, 48, 49, 50, 51, 52, 53, 67, 68, 69, 70, 71] (by decide +kernel) (by decide +kernel)
set_option maxRecDepth 20000 in
theorem gX7_isAccepted_X0_accepts : GoodIn wsX7_isAccepted (wsV RX7 95 RX0 yX0_accepts wsX0_accepts) := goodIn_app (goodIn_of _ (by decide +kernel)) ggX7_isAccepted_X0_accepts
theorem dX7_isAccepted_0 : decode cX7_isAccepted 0 = .ok (.aload_n 0, 1) := by decide +kernel
theorem dX7_isAccepted_1 : decode cX7_isAccepted 1 = .ok (.getfield 21, 3) := by decide +kernel
theorem dX7_isAccepted_4 : decode cX7_isAccepted 4 = .ok (.iload_n 3, 1) := by decide +kernel
theorem dX7_isAccepted_5 : decode cX7_isAccepted 5 = .ok (.iload_n 1, 1) := by decide +kernel
theorem dX7_isAccepted_6 : decode cX7_isAccepted 6 = .ok (.aload_n 0, 1) := by decide +kernel
theorem dX7_isAccepted_7 : decode cX7_isAccepted 7 = .ok (.iload_n 1, 1) := by decide +kernel
theorem dX7_isAccepted_8 : decode cX7_isAccepted 8 = .ok (.iload_n 2, 1) := by decide +kernel
theorem dX7_isAccepted_9 : decode cX7_isAccepted 9 = .ok (.invokevirtual 93, 3) := by decide +kernel
theorem dX7_isAccepted_12 : decode cX7_isAccepted 12 = .ok (.aload_n 0, 1) := by decide +kernel
theorem dX7_isAccepted_13 : decode cX7_isAccepted 13 = .ok (.getfield 49, 3) := by decide +kernel
theorem dX7_isAccepted_16 : decode cX7_isAccepted 16 = .ok (.invokevirtual 95, 3) := by decide +kernel
theorem dX7_isAccepted_19 : decode cX7_isAccepted 19 = .ok (.ireturn, 1) := by decide +kernel
set_option maxRecDepth 20000 in
theorem ggX7_acceptingDevices_X7_codeOf : GoodIn wsX7_acceptingDevices wsX7_codeOf := goodIn_r _ [7, 8, 9, 10, 11, 6, 12, 13, 14, 15, 16, 17, 18, 19, 20, 21, 22, 23, 24, 25, 26, 27, 28, 29, 58, 59, 60, 61, 62, 63, 64, 65, 66, 67, 68, 69, 70] (by decide +kernel) (by decide +kernel)
set_option maxRecDepth 20000 in
theorem gX7_acceptingDevices_X7_codeOf : GoodIn wsX7_acceptingDevices (wsV RX7 93 RX7 yX7_codeOf wsX7_codeOf) := goodIn_app (goodIn_of _ (by decide +kernel)) ggX7_acceptingDevices_X7_codeOf
set_option maxRecDepth 20000 in
theorem ggX7_acceptingDevices_X0_accepting : GoodIn wsX7_acceptingDevices wsX0_accepting := goodIn_r _ [34, 35, 36, 37, 38, 33, 39, 40, 41, 42, 43, 44, 45, 46, 47, 48, 49, 50, 51, 52, 53, 54, 55, 56, 57, 71, 72, 73, 74, 75] (by decide +kernel) (by decide +kernel)
set_option maxRecDepth 20000 in
theorem gX7_acceptingDevices_X0_accepting : GoodIn wsX7_acceptingDevices (wsV RX7 99 RX0 yX0_accepting wsX0_accepting) := goodIn_app (goodIn_of _ (by decide +kernel)) ggX7_acceptingDevices_X0_accepting
theorem dX7_acceptingDevices_0 : decode cX7_acceptingDevices 0 = .ok (.aload_n 0, 1) := by decide +kernel
theorem dX7_acceptingDevices_1 : decode cX7_acceptingDevices 1 = .ok (.getfield 21, 3) := by decide +kernel
theorem dX7_acceptingDevices_4 : decode cX7_acceptingDevices 4 = .ok (.iload_n 1, 1) := by decide +kernel
theorem dX7_acceptingDevices_5 : decode cX7_acceptingDevices 5 = .ok (.aload_n 0, 1) := by decide +kernel
theorem dX7_acceptingDevices_6 : decode cX7_acceptingDevices 6 = .ok (.iload_n 1, 1) := by decide +kernel
theorem dX7_acceptingDevices_7 : decode cX7_acceptingDevices 7 = .ok (.iload_n 2, 1) := by decide +kernel
theorem dX7_acceptingDevices_8 : decode cX7_acceptingDevices 8 = .ok (.invokevirtual 93, 3) := by decide +kernel
theorem dX7_acceptingDevices_11 : decode cX7_acceptingDevices 11 = .ok (.aload_n 0, 1) := by decide +kernel
theorem dX7_acceptingDevices_12 : decode cX7_acceptingDevices 12 = .ok (.getfield 49, 3) := by decide +kernel
theorem dX7_acceptingDevices_15 : decode cX7_acceptingDevices 15 = .ok (.invokevirtual 99, 3) := by decide +kernel
theorem dX7_acceptingDevices_18 : decode cX7_acceptingDevices 18 = .ok (.ireturn, 1) := by decide +kernel
set_option maxRecDepth 20000 in
theorem ggX7_enterCode_X4_add : GoodIn wsX7_enterCode wsX4_add := goodIn_r _ [6, 7, 8, 9, 10, 11, 12, 13, 14, 15, 5, 16, 35, 36, 37, 38, 39, 40] (by decide +kernel) (by decide +kernel)
set_option maxRecDepth 20000 in
theorem gX7_enterCode_X4_add : GoodIn wsX7_enterCode (wsV RX7 103 RX4 yX4_add wsX4_add) := goodIn_app (goodIn_of _ (by decide +kernel)) ggX7_enterCode_X4_add
set_option maxRecDepth 20000 in
theorem ggX7_enterCode_X7_giveRecord : GoodIn wsX7_enterCode wsX7_giveRecord := goodIn_r _ [21, 22, 23, 24, 25, 20, 26, 27, 28, 29, 30, 31, 32, 33, 34] (by decide +kernel) (by decide +kernel)
set_option maxRecDepth 20000 in
theorem gX7_enterCode_X7_giveRecord : GoodIn wsX7_enterCode (wsV RX7 107 RX7 yX7_giveRecord wsX7_giveRecord) := goodIn_app (goodIn_of _ (by decide +kernel)) ggX7_enterCode_X7_giveRecord
theorem dX7_enterCode_0 : decode cX7_enterCode 0 = .ok (.aload_n 0, 1) := by decide +kernel
theorem dX7_enterCode_1 : decode cX7_enterCode 1 = .ok (.getfield 12, 3) := by decide +kernel
theorem dX7_enterCode_4 : decode cX7_enterCode 4 = .ok (.iload_n 3, 1) := by decide +kernel
theorem dX7_enterCode_5 : decode cX7_enterCode 5 = .ok (.iload_n 1, 1) := by decide +kernel
theorem dX7_enterCode_6 : decode cX7_enterCode 6 = .ok (.iload_n 2, 1) := by decide +kernel
theorem dX7_enterCode_7 : decode cX7_enterCode 7 = .ok (.bipush (-9), 2) := by decide +kernel
theorem dX7_enterCode_9 : decode cX7_enterCode 9 = .ok (.bipush (-9), 2) := by decide +kernel
theorem dX7_enterCode_11 : decode cX7_enterCode 11 = .ok (.invokevirtual 103, 3) := by decide +kernel
theorem dX7_enterCode_14 : decode cX7_enterCode 14 = .ok (.istore 4, 2) := by decide +kernel
theorem dX7_enterCode_16 : decode cX7_enterCode 16 = .ok (.aload_n 0, 1) := by decide +kernel
theorem dX7_enterCode_17 : decode cX7_enterCode 17 = .ok (.iload_n 1, 1) := by decide +kernel
theorem dX7_enterCode_18 : decode cX7_enterCode 18 = .ok (.iload_n 2, 1) := by decide +kernel
theorem dX7_enterCode_19 : decode cX7_enterCode 19 = .ok (.iload 4, 2) := by decide +kernel
theorem dX7_enterCode_21 : decode cX7_enterCode 21 = .ok (.invokevirtual 107, 3) := by decide +kernel
theorem dX7_enterCode_24 : decode cX7_enterCode 24 = .ok (.iload 4, 2) := by decide +kernel
theorem dX7_enterCode_26 : decode cX7_enterCode 26 = .ok (.ireturn, 1) := by decide +kernel
set_option maxRecDepth 20000 in
theorem ggX7_canTeach_X7_hasCode : GoodIn wsX7_canTeach wsX7_hasCode := goodIn_r _ [6, 7, 8, 9, 5, 10, 11, 12, 13, 14, 15, 16, 23, 24, 25, 26, 27, 28, 29] (by decide +kernel) (by decide +kernel)
set_option maxRecDepth 20000 in
theorem gX7_canTeach_X7_hasCode : GoodIn wsX7_canTeach (wsV RX7 111 RX7 yX7_hasCode wsX7_hasCode) := goodIn_app (goodIn_of _ (by decide +kernel)) ggX7_canTeach_X7_hasCode
set_option maxRecDepth 20000 in
theorem ggX7_canTeach_X4_hasRoom : GoodIn wsX7_canTeach wsX4_hasRoom := goodIn_r _ [21, 22, 30, 31, 32, 33, 34, 35] (by decide +kernel) (by decide +kernel)
set_option maxRecDepth 20000 in
theorem gX7_canTeach_X4_hasRoom : GoodIn wsX7_canTeach (wsV RX7 114 RX4 yX4_hasRoom wsX4_hasRoom) := goodIn_app (goodIn_of _ (by decide +kernel)) ggX7_canTeach_X4_hasRoom
theorem dX7_canTeach_0 : decode cX7_canTeach 0 = .ok (.aload_n 0, 1) := by decide +kernel
theorem dX7_canTeach_1 : decode cX7_canTeach 1 = .ok (.iload_n 1, 1) := by decide +kernel
theorem dX7_canTeach_2 : decode cX7_canTeach 2 = .ok (.iload_n 2, 1) := by decide +kernel
theorem dX7_canTeach_3 : decode cX7_canTeach 3 = .ok (.invokevirtual 111, 3) := by decide +kernel
theorem dX7_canTeach_6 : decode cX7_canTeach 6 = .ok (.ifCond .eq 17, 3) := by decide +kernel
theorem dX7_canTeach_9 : decode cX7_canTeach 9 = .ok (.aload_n 0, 1) := by decide +kernel
theorem dX7_canTeach_10 : decode cX7_canTeach 10 = .ok (.getfield 12, 3) := by decide +kernel
theorem dX7_canTeach_13 : decode cX7_canTeach 13 = .ok (.invokevirtual 114, 3) := by decide +kernel
theorem dX7_canTeach_16 : decode cX7_canTeach 16 = .ok (.ifCond .eq 7, 3) := by decide +kernel
theorem dX7_canTeach_19 : decode cX7_canTeach 19 = .ok (.iconst 1, 1) := by decide +kernel
theorem dX7_canTeach_20 : decode cX7_canTeach 20 = .ok (.goto 4, 3) := by decide +kernel
theorem dX7_canTeach_23 : decode cX7_canTeach 23 = .ok (.iconst 0, 1) := by decide +kernel
theorem dX7_canTeach_24 : decode cX7_canTeach 24 = .ok (.ireturn, 1) := by decide +kernel
set_option maxRecDepth 20000 in
theorem ggX7_teachKey_X2_next : GoodIn wsX7_teachKey wsX2_next := goodIn_r _ [11, 12, 13] (by decide +kernel) (by decide +kernel)
set_option maxRecDepth 20000 in
theorem gX7_teachKey_X2_next : GoodIn wsX7_teachKey (va_wsS RX7 118 yX2_next wsX2_next) := goodIn_app (goodIn_of _ (by decide +kernel)) ggX7_teachKey_X2_next
set_option maxRecDepth 20000 in
theorem ggX7_teachKey_X7_recordOf : GoodIn wsX7_teachKey wsX7_recordOf := goodIn_r _ [18, 19, 20, 21, 22, 17, 23, 24, 58, 59, 60, 61, 62, 63, 64] (by decide +kernel) (by decide +kernel)
set_option maxRecDepth 20000 in
theorem gX7_teachKey_X7_recordOf : GoodIn wsX7_teachKey (wsV RX7 69 RX7 yX7_recordOf wsX7_recordOf) := goodIn_app (goodIn_of _ (by decide +kernel)) ggX7_teachKey_X7_recordOf
set_option maxRecDepth 20000 in
theorem ggX7_teachKey_X2_wrongBit : GoodIn wsX7_teachKey wsX2_wrongBit := goodIn_r _ [27] (by decide +kernel) (by decide +kernel)
set_option maxRecDepth 20000 in
theorem gX7_teachKey_X2_wrongBit : GoodIn wsX7_teachKey (va_wsS RX7 129 yX2_wrongBit wsX2_wrongBit) := goodIn_app (goodIn_of _ (by decide +kernel)) ggX7_teachKey_X2_wrongBit
set_option maxRecDepth 20000 in
theorem ggX7_teachKey_X4_codeOf : GoodIn wsX7_teachKey wsX4_codeOf := goodIn_r _ [32, 33, 34, 35, 36, 31, 37, 38, 65, 66, 67, 68, 69, 70] (by decide +kernel) (by decide +kernel)
set_option maxRecDepth 20000 in
theorem gX7_teachKey_X4_codeOf : GoodIn wsX7_teachKey (wsV RX7 77 RX4 yX4_codeOf wsX4_codeOf) := goodIn_app (goodIn_of _ (by decide +kernel)) ggX7_teachKey_X4_codeOf
set_option maxRecDepth 20000 in
theorem ggX7_teachKey_X2_changed : GoodIn wsX7_teachKey wsX2_changed := goodIn_r _ [41] (by decide +kernel) (by decide +kernel)
set_option maxRecDepth 20000 in
theorem gX7_teachKey_X2_changed : GoodIn wsX7_teachKey (va_wsS RX7 133 yX2_changed wsX2_changed) := goodIn_app (goodIn_of _ (by decide +kernel)) ggX7_teachKey_X2_changed
set_option maxRecDepth 20000 in
theorem ggX7_teachKey_X4_add : GoodIn wsX7_teachKey wsX4_add := goodIn_r _ [45, 38, 33, 46, 47, 48, 49, 50, 51, 52, 31, 53, 65, 66, 67, 68, 69, 70] (by decide +kernel) (by decide +kernel)
set_option maxRecDepth 20000 in
theorem gX7_teachKey_X4_add : GoodIn wsX7_teachKey (wsV RX7 103 RX4 yX4_add wsX4_add) := goodIn_app (goodIn_of _ (by decide +kernel)) ggX7_teachKey_X4_add
set_option maxRecDepth 20000 in
theorem ggX7_teachKey_X7_giveRecord : GoodIn wsX7_teachKey wsX7_giveRecord := goodIn_r _ [57, 19, 20, 21, 22, 17, 23, 24, 58, 59, 60, 61, 62, 63, 64] (by decide +kernel) (by decide +kernel)
set_option maxRecDepth 20000 in
theorem gX7_teachKey_X7_giveRecord : GoodIn wsX7_teachKey (wsV RX7 107 RX7 yX7_giveRecord wsX7_giveRecord) := goodIn_app (goodIn_of _ (by decide +kernel)) ggX7_teachKey_X7_giveRecord
theorem dX7_teachKey_0 : decode cX7_teachKey 0 = .ok (.aload_n 0, 1) := by decide +kernel
theorem dX7_teachKey_1 : decode cX7_teachKey 1 = .ok (.aload_n 0, 1) := by decide +kernel
theorem dX7_teachKey_2 : decode cX7_teachKey 2 = .ok (.getfield 52, 3) := by decide +kernel
theorem dX7_teachKey_5 : decode cX7_teachKey 5 = .ok (.invokestatic 118, 3) := by decide +kernel
theorem dX7_teachKey_8 : decode cX7_teachKey 8 = .ok (.putfield 52, 3) := by decide +kernel
theorem dX7_teachKey_11 : decode cX7_teachKey 11 = .ok (.aload_n 0, 1) := by decide +kernel
theorem dX7_teachKey_12 : decode cX7_teachKey 12 = .ok (.iload_n 1, 1) := by decide +kernel
theorem dX7_teachKey_13 : decode cX7_teachKey 13 = .ok (.iload_n 2, 1) := by decide +kernel
theorem dX7_teachKey_14 : decode cX7_teachKey 14 = .ok (.invokevirtual 69, 3) := by decide +kernel
theorem dX7_teachKey_17 : decode cX7_teachKey 17 = .ok (.istore 5, 2) := by decide +kernel
theorem dX7_teachKey_19 : decode cX7_teachKey 19 = .ok (.aload_n 0, 1) := by decide +kernel
theorem dX7_teachKey_20 : decode cX7_teachKey 20 = .ok (.getfield 52, 3) := by decide +kernel
theorem dX7_teachKey_23 : decode cX7_teachKey 23 = .ok (.aload_n 0, 1) := by decide +kernel
theorem dX7_teachKey_24 : decode cX7_teachKey 24 = .ok (.getfield 46, 3) := by decide +kernel
theorem dX7_teachKey_27 : decode cX7_teachKey 27 = .ok (.iload_n 1, 1) := by decide +kernel
theorem dX7_teachKey_28 : decode cX7_teachKey 28 = .ok (.iload_n 3, 1) := by decide +kernel
theorem dX7_teachKey_29 : decode cX7_teachKey 29 = .ok (.isub, 1) := by decide +kernel
theorem dX7_teachKey_30 : decode cX7_teachKey 30 = .ok (.invokestatic 124, 3) := by decide +kernel
theorem dX7_teachKey_33 : decode cX7_teachKey 33 = .ok (.invokestatic 129, 3) := by decide +kernel
theorem dX7_teachKey_36 : decode cX7_teachKey 36 = .ok (.istore 6, 2) := by decide +kernel
theorem dX7_teachKey_38 : decode cX7_teachKey 38 = .ok (.aload_n 0, 1) := by decide +kernel
theorem dX7_teachKey_39 : decode cX7_teachKey 39 = .ok (.getfield 12, 3) := by decide +kernel
theorem dX7_teachKey_42 : decode cX7_teachKey 42 = .ok (.iload 5, 2) := by decide +kernel
theorem dX7_teachKey_44 : decode cX7_teachKey 44 = .ok (.invokevirtual 77, 3) := by decide +kernel
theorem dX7_teachKey_47 : decode cX7_teachKey 47 = .ok (.iload 6, 2) := by decide +kernel
theorem dX7_teachKey_49 : decode cX7_teachKey 49 = .ok (.invokestatic 133, 3) := by decide +kernel
theorem dX7_teachKey_52 : decode cX7_teachKey 52 = .ok (.istore 7, 2) := by decide +kernel
theorem dX7_teachKey_54 : decode cX7_teachKey 54 = .ok (.aload_n 0, 1) := by decide +kernel
theorem dX7_teachKey_55 : decode cX7_teachKey 55 = .ok (.iload_n 3, 1) := by decide +kernel
theorem dX7_teachKey_56 : decode cX7_teachKey 56 = .ok (.iload 4, 2) := by decide +kernel
theorem dX7_teachKey_58 : decode cX7_teachKey 58 = .ok (.aload_n 0, 1) := by decide +kernel
theorem dX7_teachKey_59 : decode cX7_teachKey 59 = .ok (.getfield 12, 3) := by decide +kernel
theorem dX7_teachKey_62 : decode cX7_teachKey 62 = .ok (.iload 7, 2) := by decide +kernel
theorem dX7_teachKey_64 : decode cX7_teachKey 64 = .ok (.iload_n 3, 1) := by decide +kernel
theorem dX7_teachKey_65 : decode cX7_teachKey 65 = .ok (.iload 4, 2) := by decide +kernel
theorem dX7_teachKey_67 : decode cX7_teachKey 67 = .ok (.iload 5, 2) := by decide +kernel
theorem dX7_teachKey_69 : decode cX7_teachKey 69 = .ok (.iload 6, 2) := by decide +kernel
theorem dX7_teachKey_71 : decode cX7_teachKey 71 = .ok (.invokevirtual 103, 3) := by decide +kernel
theorem dX7_teachKey_74 : decode cX7_teachKey 74 = .ok (.invokevirtual 107, 3) := by decide +kernel
theorem dX7_teachKey_77 : decode cX7_teachKey 77 = .ok (.iload 7, 2) := by decide +kernel
theorem dX7_teachKey_79 : decode cX7_teachKey 79 = .ok (.ireturn, 1) := by decide +kernel
set_option maxRecDepth 20000 in
theorem ggX7_eraseKey_X7_codeOf : GoodIn wsX7_eraseKey wsX7_codeOf := goodIn_r _ [5, 6, 7, 8, 9, 4, 10, 11, 12, 13, 14, 15, 16, 17, 18, 19, 20, 21, 22, 23, 24, 25, 26, 27, 32, 33, 34, 35, 36, 37, 38, 39, 40, 41, 42, 43, 44] (by decide +kernel) (by decide +kernel)
set_option maxRecDepth 20000 in
theorem gX7_eraseKey_X7_codeOf : GoodIn wsX7_eraseKey (wsV RX7 93 RX7 yX7_codeOf wsX7_codeOf) := goodIn_app (goodIn_of _ (by decide +kernel)) ggX7_eraseKey_X7_codeOf
set_option maxRecDepth 20000 in
theorem ggX7_eraseKey_X7_giveRecord : GoodIn wsX7_eraseKey wsX7_giveRecord := goodIn_r _ [31, 11, 12, 13, 14, 4, 15, 16, 32, 33, 34, 35, 36, 37, 38] (by decide +kernel) (by decide +kernel)
set_option maxRecDepth 20000 in
theorem gX7_eraseKey_X7_giveRecord : GoodIn wsX7_eraseKey (wsV RX7 107 RX7 yX7_giveRecord wsX7_giveRecord) := goodIn_app (goodIn_of _ (by decide +kernel)) ggX7_eraseKey_X7_giveRecord
theorem dX7_eraseKey_0 : decode cX7_eraseKey 0 = .ok (.aload_n 0, 1) := by decide +kernel
theorem dX7_eraseKey_1 : decode cX7_eraseKey 1 = .ok (.iload_n 1, 1) := by decide +kernel
theorem dX7_eraseKey_2 : decode cX7_eraseKey 2 = .ok (.iload_n 2, 1) := by decide +kernel
theorem dX7_eraseKey_3 : decode cX7_eraseKey 3 = .ok (.invokevirtual 93, 3) := by decide +kernel
theorem dX7_eraseKey_6 : decode cX7_eraseKey 6 = .ok (.istore_n 3, 1) := by decide +kernel
theorem dX7_eraseKey_7 : decode cX7_eraseKey 7 = .ok (.aload_n 0, 1) := by decide +kernel
theorem dX7_eraseKey_8 : decode cX7_eraseKey 8 = .ok (.iload_n 1, 1) := by decide +kernel
theorem dX7_eraseKey_9 : decode cX7_eraseKey 9 = .ok (.iload_n 2, 1) := by decide +kernel
theorem dX7_eraseKey_10 : decode cX7_eraseKey 10 = .ok (.bipush (-9), 2) := by decide +kernel
theorem dX7_eraseKey_12 : decode cX7_eraseKey 12 = .ok (.invokevirtual 107, 3) := by decide +kernel
theorem dX7_eraseKey_15 : decode cX7_eraseKey 15 = .ok (.iload_n 3, 1) := by decide +kernel
theorem dX7_eraseKey_16 : decode cX7_eraseKey 16 = .ok (.ireturn, 1) := by decide +kernel
set_option maxRecDepth 20000 in
theorem ggX7_pressKey_X7_codeOf : GoodIn wsX7_pressKey wsX7_codeOf := goodIn_r _ [7, 8, 9, 10, 11, 6, 12, 13, 14, 15, 16, 17, 18, 19, 20, 21, 22, 23, 24, 25, 26, 27, 28, 29, 63, 64, 65, 66, 67, 68, 69, 70, 71, 72, 73, 74, 75] (by decide +kernel) (by decide +kernel)
set_option maxRecDepth 20000 in
theorem gX7_pressKey_X7_codeOf : GoodIn wsX7_pressKey (wsV RX7 93 RX7 yX7_codeOf wsX7_codeOf) := goodIn_app (goodIn_of _ (by decide +kernel)) ggX7_pressKey_X7_codeOf
set_option maxRecDepth 20000 in
theorem ggX7_pressKey_X0_accepting : GoodIn wsX7_pressKey wsX0_accepting := goodIn_r _ [34, 35, 36, 37, 38, 33, 39, 40, 41, 42, 43, 44, 45, 46, 47, 48, 49, 50, 51, 52, 53, 54, 55, 56, 57, 76, 77, 78, 79, 80] (by decide +kernel) (by decide +kernel)
set_option maxRecDepth 20000 in
theorem gX7_pressKey_X0_accepting : GoodIn wsX7_pressKey (wsV RX7 99 RX0 yX0_accepting wsX0_accepting) := goodIn_app (goodIn_of _ (by decide +kernel)) ggX7_pressKey_X0_accepting
set_option maxRecDepth 20000 in
theorem ggX7_pressKey_X0_switchOver : GoodIn wsX7_pressKey wsX0_switchOver := goodIn_r _ [61, 62, 76, 77, 78, 79, 80] (by decide +kernel) (by decide +kernel)
set_option maxRecDepth 20000 in
theorem gX7_pressKey_X0_switchOver : GoodIn wsX7_pressKey (wsV RX7 136 RX0 yX0_switchOver wsX0_switchOver) := goodIn_app (goodIn_of _ (by decide +kernel)) ggX7_pressKey_X0_switchOver
theorem dX7_pressKey_0 : decode cX7_pressKey 0 = .ok (.aload_n 0, 1) := by decide +kernel
theorem dX7_pressKey_1 : decode cX7_pressKey 1 = .ok (.getfield 21, 3) := by decide +kernel
theorem dX7_pressKey_4 : decode cX7_pressKey 4 = .ok (.iload_n 1, 1) := by decide +kernel
theorem dX7_pressKey_5 : decode cX7_pressKey 5 = .ok (.aload_n 0, 1) := by decide +kernel
theorem dX7_pressKey_6 : decode cX7_pressKey 6 = .ok (.iload_n 1, 1) := by decide +kernel
theorem dX7_pressKey_7 : decode cX7_pressKey 7 = .ok (.iload_n 2, 1) := by decide +kernel
theorem dX7_pressKey_8 : decode cX7_pressKey 8 = .ok (.invokevirtual 93, 3) := by decide +kernel
theorem dX7_pressKey_11 : decode cX7_pressKey 11 = .ok (.aload_n 0, 1) := by decide +kernel
theorem dX7_pressKey_12 : decode cX7_pressKey 12 = .ok (.getfield 49, 3) := by decide +kernel
theorem dX7_pressKey_15 : decode cX7_pressKey 15 = .ok (.invokevirtual 99, 3) := by decide +kernel
theorem dX7_pressKey_18 : decode cX7_pressKey 18 = .ok (.istore_n 3, 1) := by decide +kernel
theorem dX7_pressKey_19 : decode cX7_pressKey 19 = .ok (.aload_n 0, 1) := by decide +kernel
theorem dX7_pressKey_20 : decode cX7_pressKey 20 = .ok (.getfield 21, 3) := by decide +kernel
theorem dX7_pressKey_23 : decode cX7_pressKey 23 = .ok (.iload_n 3, 1) := by decide +kernel
theorem dX7_pressKey_24 : decode cX7_pressKey 24 = .ok (.invokevirtual 136, 3) := by decide +kernel
theorem dX7_pressKey_27 : decode cX7_pressKey 27 = .ok (.iload_n 3, 1) := by decide +kernel
theorem dX7_pressKey_28 : decode cX7_pressKey 28 = .ok (.ireturn, 1) := by decide +kernel
theorem dX7_changeSetting_0 : decode cX7_changeSetting 0 = .ok (.iload_n 1, 1) := by decide +kernel
theorem dX7_changeSetting_1 : decode cX7_changeSetting 1 = .ok (.ifCond .ne 10, 3) := by decide +kernel
theorem dX7_changeSetting_4 : decode cX7_changeSetting 4 = .ok (.aload_n 0, 1) := by decide +kernel
theorem dX7_changeSetting_5 : decode cX7_changeSetting 5 = .ok (.getfield 46, 3) := by decide +kernel
theorem dX7_changeSetting_8 : decode cX7_changeSetting 8 = .ok (.goto 7, 3) := by decide +kernel
theorem dX7_changeSetting_11 : decode cX7_changeSetting 11 = .ok (.aload_n 0, 1) := by decide +kernel
theorem dX7_changeSetting_12 : decode cX7_changeSetting 12 = .ok (.getfield 49, 3) := by decide +kernel
theorem dX7_changeSetting_15 : decode cX7_changeSetting 15 = .ok (.istore_n 3, 1) := by decide +kernel
theorem dX7_changeSetting_16 : decode cX7_changeSetting 16 = .ok (.iload_n 1, 1) := by decide +kernel
theorem dX7_changeSetting_17 : decode cX7_changeSetting 17 = .ok (.ifCond .ne 11, 3) := by decide +kernel
theorem dX7_changeSetting_20 : decode cX7_changeSetting 20 = .ok (.aload_n 0, 1) := by decide +kernel
theorem dX7_changeSetting_21 : decode cX7_changeSetting 21 = .ok (.iload_n 2, 1) := by decide +kernel
theorem dX7_changeSetting_22 : decode cX7_changeSetting 22 = .ok (.putfield 46, 3) := by decide +kernel
theorem dX7_changeSetting_25 : decode cX7_changeSetting 25 = .ok (.goto 8, 3) := by decide +kernel
theorem dX7_changeSetting_28 : decode cX7_changeSetting 28 = .ok (.aload_n 0, 1) := by decide +kernel
theorem dX7_changeSetting_29 : decode cX7_changeSetting 29 = .ok (.iload_n 2, 1) := by decide +kernel
theorem dX7_changeSetting_30 : decode cX7_changeSetting 30 = .ok (.putfield 49, 3) := by decide +kernel
theorem dX7_changeSetting_33 : decode cX7_changeSetting 33 = .ok (.iload_n 3, 1) := by decide +kernel
theorem dX7_changeSetting_34 : decode cX7_changeSetting 34 = .ok (.ireturn, 1) := by decide +kernel
set_option maxRecDepth 20000 in
theorem ggX7_codeIfTaught_X7_hasCode : GoodIn wsX7_codeIfTaught wsX7_hasCode := goodIn_r _ [11, 12, 13, 14, 10, 15, 16, 17, 18, 19, 20, 21, 53, 54, 55, 56, 57, 58, 59] (by decide +kernel) (by decide +kernel)
set_option maxRecDepth 20000 in
theorem gX7_codeIfTaught_X7_hasCode : GoodIn wsX7_codeIfTaught (wsV RX7 111 RX7 yX7_hasCode wsX7_hasCode) := goodIn_app (goodIn_of _ (by decide +kernel)) ggX7_codeIfTaught_X7_hasCode
set_option maxRecDepth 20000 in
theorem ggX7_codeIfTaught_X7_codeOf : GoodIn wsX7_codeIfTaught wsX7_codeOf := goodIn_r _ [25, 26, 12, 13, 14, 10, 15, 16, 17, 18, 19, 20, 21, 27, 28, 29, 30, 31, 32, 33, 34, 35, 36, 37, 53, 54, 55, 56, 57, 58, 59, 60, 61, 62, 63, 64, 65] (by decide +kernel) (by decide +kernel)
set_option maxRecDepth 20000 in
theorem gX7_codeIfTaught_X7_codeOf : GoodIn wsX7_codeIfTaught (wsV RX7 93 RX7 yX7_codeOf wsX7_codeOf) := goodIn_app (goodIn_of _ (by decide +kernel)) ggX7_codeIfTaught_X7_codeOf
set_option maxRecDepth 20000 in
theorem ggX7_codeIfTaught_X2_next : GoodIn wsX7_codeIfTaught wsX2_next := goodIn_r _ [41, 42, 43] (by decide +kernel) (by decide +kernel)
set_option maxRecDepth 20000 in
theorem gX7_codeIfTaught_X2_next : GoodIn wsX7_codeIfTaught (va_wsS RX7 118 yX2_next wsX2_next) := goodIn_app (goodIn_of _ (by decide +kernel)) ggX7_codeIfTaught_X2_next
set_option maxRecDepth 20000 in
theorem ggX7_codeIfTaught_X2_learned : GoodIn wsX7_codeIfTaught wsX2_learned := goodIn_r _ [46, 47, 48, 40, 49, 50, 51, 52] (by decide +kernel) (by decide +kernel)
set_option maxRecDepth 20000 in
theorem gX7_codeIfTaught_X2_learned : GoodIn wsX7_codeIfTaught (va_wsS RX7 139 yX2_learned wsX2_learned) := goodIn_app (goodIn_of _ (by decide +kernel)) ggX7_codeIfTaught_X2_learned
theorem dX7_codeIfTaught_0 : decode cX7_codeIfTaught 0 = .ok (.aload_n 0, 1) := by decide +kernel
theorem dX7_codeIfTaught_1 : decode cX7_codeIfTaught 1 = .ok (.iload_n 1, 1) := by decide +kernel
theorem dX7_codeIfTaught_2 : decode cX7_codeIfTaught 2 = .ok (.iload_n 2, 1) := by decide +kernel
theorem dX7_codeIfTaught_3 : decode cX7_codeIfTaught 3 = .ok (.invokevirtual 111, 3) := by decide +kernel
theorem dX7_codeIfTaught_6 : decode cX7_codeIfTaught 6 = .ok (.ifCond .ne 6, 3) := by decide +kernel
theorem dX7_codeIfTaught_9 : decode cX7_codeIfTaught 9 = .ok (.bipush (-9), 2) := by decide +kernel
theorem dX7_codeIfTaught_11 : decode cX7_codeIfTaught 11 = .ok (.ireturn, 1) := by decide +kernel
theorem dX7_codeIfTaught_12 : decode cX7_codeIfTaught 12 = .ok (.aload_n 0, 1) := by decide +kernel
theorem dX7_codeIfTaught_13 : decode cX7_codeIfTaught 13 = .ok (.iload_n 1, 1) := by decide +kernel
theorem dX7_codeIfTaught_14 : decode cX7_codeIfTaught 14 = .ok (.iload_n 2, 1) := by decide +kernel
theorem dX7_codeIfTaught_15 : decode cX7_codeIfTaught 15 = .ok (.invokevirtual 93, 3) := by decide +kernel
theorem dX7_codeIfTaught_18 : decode cX7_codeIfTaught 18 = .ok (.aload_n 0, 1) := by decide +kernel
theorem dX7_codeIfTaught_19 : decode cX7_codeIfTaught 19 = .ok (.getfield 52, 3) := by decide +kernel
theorem dX7_codeIfTaught_22 : decode cX7_codeIfTaught 22 = .ok (.invokestatic 118, 3) := by decide +kernel
theorem dX7_codeIfTaught_25 : decode cX7_codeIfTaught 25 = .ok (.aload_n 0, 1) := by decide +kernel
theorem dX7_codeIfTaught_26 : decode cX7_codeIfTaught 26 = .ok (.getfield 46, 3) := by decide +kernel
theorem dX7_codeIfTaught_29 : decode cX7_codeIfTaught 29 = .ok (.iload_n 1, 1) := by decide +kernel
theorem dX7_codeIfTaught_30 : decode cX7_codeIfTaught 30 = .ok (.iload_n 3, 1) := by decide +kernel
theorem dX7_codeIfTaught_31 : decode cX7_codeIfTaught 31 = .ok (.isub, 1) := by decide +kernel
theorem dX7_codeIfTaught_32 : decode cX7_codeIfTaught 32 = .ok (.invokestatic 124, 3) := by decide +kernel
theorem dX7_codeIfTaught_35 : decode cX7_codeIfTaught 35 = .ok (.invokestatic 139, 3) := by decide +kernel
theorem dX7_codeIfTaught_38 : decode cX7_codeIfTaught 38 = .ok (.ireturn, 1) := by decide +kernel
set_option maxRecDepth 20000 in
theorem ggX7_codeIfHanded_X7_codeOf : GoodIn wsX7_codeIfHanded wsX7_codeOf := goodIn_r _ [11, 12, 13, 14, 15, 10, 16, 17, 18, 19, 20, 21, 22, 23, 24, 25, 26, 27, 28, 29, 30, 31, 32, 33, 49, 50, 51, 52, 53, 54, 55, 56, 57, 58, 59, 60, 61] (by decide +kernel) (by decide +kernel)
set_option maxRecDepth 20000 in
theorem gX7_codeIfHanded_X7_codeOf : GoodIn wsX7_codeIfHanded (wsV RX7 93 RX7 yX7_codeOf wsX7_codeOf) := goodIn_app (goodIn_of _ (by decide +kernel)) ggX7_codeIfHanded_X7_codeOf
set_option maxRecDepth 20000 in
theorem ggX7_codeIfHanded_X2_next : GoodIn wsX7_codeIfHanded wsX2_next := goodIn_r _ [37, 38, 39] (by decide +kernel) (by decide +kernel)
set_option maxRecDepth 20000 in
theorem gX7_codeIfHanded_X2_next : GoodIn wsX7_codeIfHanded (va_wsS RX7 118 yX2_next wsX2_next) := goodIn_app (goodIn_of _ (by decide +kernel)) ggX7_codeIfHanded_X2_next
set_option maxRecDepth 20000 in
theorem ggX7_codeIfHanded_X2_learned : GoodIn wsX7_codeIfHanded wsX2_learned := goodIn_r _ [42, 43, 44, 36, 45, 46, 47, 48] (by decide +kernel) (by decide +kernel)
set_option maxRecDepth 20000 in
theorem gX7_codeIfHanded_X2_learned : GoodIn wsX7_codeIfHanded (va_wsS RX7 139 yX2_learned wsX2_learned) := goodIn_app (goodIn_of _ (by decide +kernel)) ggX7_codeIfHanded_X2_learned
theorem dX7_codeIfHanded_0 : decode cX7_codeIfHanded 0 = .ok (.aload_n 0, 1) := by decide +kernel
theorem dX7_codeIfHanded_1 : decode cX7_codeIfHanded 1 = .ok (.iload_n 1, 1) := by decide +kernel
theorem dX7_codeIfHanded_2 : decode cX7_codeIfHanded 2 = .ok (.iload_n 2, 1) := by decide +kernel
theorem dX7_codeIfHanded_3 : decode cX7_codeIfHanded 3 = .ok (.invokevirtual 93, 3) := by decide +kernel
theorem dX7_codeIfHanded_6 : decode cX7_codeIfHanded 6 = .ok (.istore 4, 2) := by decide +kernel
theorem dX7_codeIfHanded_8 : decode cX7_codeIfHanded 8 = .ok (.iload 4, 2) := by decide +kernel
theorem dX7_codeIfHanded_10 : decode cX7_codeIfHanded 10 = .ok (.bipush (-9), 2) := by decide +kernel
theorem dX7_codeIfHanded_12 : decode cX7_codeIfHanded 12 = .ok (.if_icmp .ne 6, 3) := by decide +kernel
theorem dX7_codeIfHanded_15 : decode cX7_codeIfHanded 15 = .ok (.bipush (-9), 2) := by decide +kernel
theorem dX7_codeIfHanded_17 : decode cX7_codeIfHanded 17 = .ok (.ireturn, 1) := by decide +kernel
theorem dX7_codeIfHanded_18 : decode cX7_codeIfHanded 18 = .ok (.aload_n 0, 1) := by decide +kernel
theorem dX7_codeIfHanded_19 : decode cX7_codeIfHanded 19 = .ok (.getfield 52, 3) := by decide +kernel
theorem dX7_codeIfHanded_22 : decode cX7_codeIfHanded 22 = .ok (.lstore 5, 2) := by decide +kernel
theorem dX7_codeIfHanded_24 : decode cX7_codeIfHanded 24 = .ok (.iload_n 1, 1) := by decide +kernel
theorem dX7_codeIfHanded_25 : decode cX7_codeIfHanded 25 = .ok (.iload_n 3, 1) := by decide +kernel
theorem dX7_codeIfHanded_26 : decode cX7_codeIfHanded 26 = .ok (.isub, 1) := by decide +kernel
theorem dX7_codeIfHanded_27 : decode cX7_codeIfHanded 27 = .ok (.invokestatic 124, 3) := by decide +kernel
theorem dX7_codeIfHanded_30 : decode cX7_codeIfHanded 30 = .ok (.istore 7, 2) := by decide +kernel
theorem dX7_codeIfHanded_32 : decode cX7_codeIfHanded 32 = .ok (.iconst 0, 1) := by decide +kernel
theorem dX7_codeIfHanded_33 : decode cX7_codeIfHanded 33 = .ok (.istore 8, 2) := by decide +kernel
theorem dX7_codeIfHanded_35 : decode cX7_codeIfHanded 35 = .ok (.iload 8, 2) := by decide +kernel
theorem dX7_codeIfHanded_37 : decode cX7_codeIfHanded 37 = .ok (.iload 7, 2) := by decide +kernel
theorem dX7_codeIfHanded_39 : decode cX7_codeIfHanded 39 = .ok (.if_icmp .ge 30, 3) := by decide +kernel
theorem dX7_codeIfHanded_42 : decode cX7_codeIfHanded 42 = .ok (.lload 5, 2) := by decide +kernel
theorem dX7_codeIfHanded_44 : decode cX7_codeIfHanded 44 = .ok (.invokestatic 118, 3) := by decide +kernel
theorem dX7_codeIfHanded_47 : decode cX7_codeIfHanded 47 = .ok (.lstore 5, 2) := by decide +kernel
theorem dX7_codeIfHanded_49 : decode cX7_codeIfHanded 49 = .ok (.iload 4, 2) := by decide +kernel
theorem dX7_codeIfHanded_51 : decode cX7_codeIfHanded 51 = .ok (.lload 5, 2) := by decide +kernel
theorem dX7_codeIfHanded_53 : decode cX7_codeIfHanded 53 = .ok (.aload_n 0, 1) := by decide +kernel
theorem dX7_codeIfHanded_54 : decode cX7_codeIfHanded 54 = .ok (.getfield 46, 3) := by decide +kernel
theorem dX7_codeIfHanded_57 : decode cX7_codeIfHanded 57 = .ok (.iconst 1, 1) := by decide +kernel
theorem dX7_codeIfHanded_58 : decode cX7_codeIfHanded 58 = .ok (.invokestatic 139, 3) := by decide +kernel
theorem dX7_codeIfHanded_61 : decode cX7_codeIfHanded 61 = .ok (.istore 4, 2) := by decide +kernel
theorem dX7_codeIfHanded_63 : decode cX7_codeIfHanded 63 = .ok (.iinc 8 1, 3) := by decide +kernel
theorem dX7_codeIfHanded_66 : decode cX7_codeIfHanded 66 = .ok (.goto (-31), 3) := by decide +kernel
theorem dX7_codeIfHanded_69 : decode cX7_codeIfHanded 69 = .ok (.iload 4, 2) := by decide +kernel
theorem dX7_codeIfHanded_71 : decode cX7_codeIfHanded 71 = .ok (.ireturn, 1) := by decide +kernel
set_option maxRecDepth 20000 in
theorem ggX7_teacherNearestTo_X7_codeIfTaught : GoodIn wsX7_teacherNearestTo wsX7_codeIfTaught := goodIn_r _ [6, 7, 8, 9, 10, 11, 12, 13, 14, 15, 5, 16, 17, 18, 19, 20, 21, 22, 23, 24, 25, 1, 26, 27, 28, 29, 30, 31, 32, 33, 34, 35, 36, 37, 38, 39, 40, 41, 42, 43, 44, 45, 46, 47, 48, 49, 50, 51, 52, 53, 54, 55, 56, 67, 68, 69, 70, 71, 72, 73, 74, 75, 76, 77, 78, 79] (by decide +kernel) (by decide +kernel)
set_option maxRecDepth 20000 in
theorem gX7_teacherNearestTo_X7_codeIfTaught : GoodIn wsX7_teacherNearestTo (wsV RX7 143 RX7 yX7_codeIfTaught wsX7_codeIfTaught) := goodIn_app (goodIn_of _ (by decide +kernel)) ggX7_teacherNearestTo_X7_codeIfTaught
set_option maxRecDepth 20000 in
theorem ggX7_teacherNearestTo_X9_apart : GoodIn wsX7_teacherNearestTo wsX9_apart := goodIn_r _ [59, 60, 61, 62, 63, 64, 65, 66] (by decide +kernel) (by decide +kernel)
set_option maxRecDepth 20000 in
theorem gX7_teacherNearestTo_X9_apart_n146 : GoodIn wsX7_teacherNearestTo (wsX9_apart) := ggX7_teacherNearestTo_X9_apart
theorem dX7_teacherNearestTo_0 : decode cX7_teacherNearestTo 0 = .ok (.bipush (-9), 2) := by decide +kernel
theorem dX7_teacherNearestTo_2 : decode cX7_teacherNearestTo 2 = .ok (.istore_n 3, 1) := by decide +kernel
theorem dX7_teacherNearestTo_3 : decode cX7_teacherNearestTo 3 = .ok (.bipush 13, 2) := by decide +kernel
theorem dX7_teacherNearestTo_5 : decode cX7_teacherNearestTo 5 = .ok (.istore 4, 2) := by decide +kernel
theorem dX7_teacherNearestTo_7 : decode cX7_teacherNearestTo 7 = .ok (.iconst 0, 1) := by decide +kernel
theorem dX7_teacherNearestTo_8 : decode cX7_teacherNearestTo 8 = .ok (.istore 5, 2) := by decide +kernel
theorem dX7_teacherNearestTo_10 : decode cX7_teacherNearestTo 10 = .ok (.iload 5, 2) := by decide +kernel
theorem dX7_teacherNearestTo_12 : decode cX7_teacherNearestTo 12 = .ok (.aload_n 0, 1) := by decide +kernel
theorem dX7_teacherNearestTo_13 : decode cX7_teacherNearestTo 13 = .ok (.getfield 42, 3) := by decide +kernel
theorem dX7_teacherNearestTo_16 : decode cX7_teacherNearestTo 16 = .ok (.if_icmp .ge 71, 3) := by decide +kernel
theorem dX7_teacherNearestTo_19 : decode cX7_teacherNearestTo 19 = .ok (.iconst 0, 1) := by decide +kernel
theorem dX7_teacherNearestTo_20 : decode cX7_teacherNearestTo 20 = .ok (.istore 6, 2) := by decide +kernel
theorem dX7_teacherNearestTo_22 : decode cX7_teacherNearestTo 22 = .ok (.iload 6, 2) := by decide +kernel
theorem dX7_teacherNearestTo_24 : decode cX7_teacherNearestTo 24 = .ok (.bipush 6, 2) := by decide +kernel
theorem dX7_teacherNearestTo_26 : decode cX7_teacherNearestTo 26 = .ok (.if_icmp .ge 55, 3) := by decide +kernel
theorem dX7_teacherNearestTo_29 : decode cX7_teacherNearestTo 29 = .ok (.aload_n 0, 1) := by decide +kernel
theorem dX7_teacherNearestTo_30 : decode cX7_teacherNearestTo 30 = .ok (.iload 5, 2) := by decide +kernel
theorem dX7_teacherNearestTo_32 : decode cX7_teacherNearestTo 32 = .ok (.iload 6, 2) := by decide +kernel
theorem dX7_teacherNearestTo_34 : decode cX7_teacherNearestTo 34 = .ok (.iload_n 2, 1) := by decide +kernel
theorem dX7_teacherNearestTo_35 : decode cX7_teacherNearestTo 35 = .ok (.invokevirtual 143, 3) := by decide +kernel
theorem dX7_teacherNearestTo_38 : decode cX7_teacherNearestTo 38 = .ok (.istore 7, 2) := by decide +kernel
theorem dX7_teacherNearestTo_40 : decode cX7_teacherNearestTo 40 = .ok (.iload 7, 2) := by decide +kernel
theorem dX7_teacherNearestTo_42 : decode cX7_teacherNearestTo 42 = .ok (.bipush (-9), 2) := by decide +kernel
theorem dX7_teacherNearestTo_44 : decode cX7_teacherNearestTo 44 = .ok (.if_icmp .eq 31, 3) := by decide +kernel
theorem dX7_teacherNearestTo_47 : decode cX7_teacherNearestTo 47 = .ok (.iload 7, 2) := by decide +kernel
theorem dX7_teacherNearestTo_49 : decode cX7_teacherNearestTo 49 = .ok (.iload_n 1, 1) := by decide +kernel
theorem dX7_teacherNearestTo_50 : decode cX7_teacherNearestTo 50 = .ok (.invokestatic 146, 3) := by decide +kernel
theorem dX7_teacherNearestTo_53 : decode cX7_teacherNearestTo 53 = .ok (.iload 4, 2) := by decide +kernel
theorem dX7_teacherNearestTo_55 : decode cX7_teacherNearestTo 55 = .ok (.if_icmp .ge 20, 3) := by decide +kernel
theorem dX7_teacherNearestTo_58 : decode cX7_teacherNearestTo 58 = .ok (.iload 7, 2) := by decide +kernel
theorem dX7_teacherNearestTo_60 : decode cX7_teacherNearestTo 60 = .ok (.iload_n 1, 1) := by decide +kernel
theorem dX7_teacherNearestTo_61 : decode cX7_teacherNearestTo 61 = .ok (.invokestatic 146, 3) := by decide +kernel
theorem dX7_teacherNearestTo_64 : decode cX7_teacherNearestTo 64 = .ok (.istore 4, 2) := by decide +kernel
theorem dX7_teacherNearestTo_66 : decode cX7_teacherNearestTo 66 = .ok (.bipush 10, 2) := by decide +kernel
theorem dX7_teacherNearestTo_68 : decode cX7_teacherNearestTo 68 = .ok (.iload 5, 2) := by decide +kernel
theorem dX7_teacherNearestTo_70 : decode cX7_teacherNearestTo 70 = .ok (.imul, 1) := by decide +kernel
theorem dX7_teacherNearestTo_71 : decode cX7_teacherNearestTo 71 = .ok (.iload 6, 2) := by decide +kernel
theorem dX7_teacherNearestTo_73 : decode cX7_teacherNearestTo 73 = .ok (.iadd, 1) := by decide +kernel
theorem dX7_teacherNearestTo_74 : decode cX7_teacherNearestTo 74 = .ok (.istore_n 3, 1) := by decide +kernel
theorem dX7_teacherNearestTo_75 : decode cX7_teacherNearestTo 75 = .ok (.iinc 6 1, 3) := by decide +kernel
theorem dX7_teacherNearestTo_78 : decode cX7_teacherNearestTo 78 = .ok (.goto (-56), 3) := by decide +kernel
theorem dX7_teacherNearestTo_81 : decode cX7_teacherNearestTo 81 = .ok (.iinc 5 1, 3) := by decide +kernel
theorem dX7_teacherNearestTo_84 : decode cX7_teacherNearestTo 84 = .ok (.goto (-74), 3) := by decide +kernel
theorem dX7_teacherNearestTo_87 : decode cX7_teacherNearestTo 87 = .ok (.iload_n 3, 1) := by decide +kernel
theorem dX7_teacherNearestTo_88 : decode cX7_teacherNearestTo 88 = .ok (.ireturn, 1) := by decide +kernel
set_option maxRecDepth 20000 in
theorem ggX7_farthestFrom_X4_rootOf : GoodIn wsX7_farthestFrom wsX4_rootOf := goodIn_r _ [11, 12, 13, 14, 10, 15, 16, 17, 18, 19, 20, 21, 22, 23, 24, 25, 26, 27, 28, 29, 30, 31, 5, 32, 55, 56, 57, 58, 59, 60] (by decide +kernel) (by decide +kernel)
set_option maxRecDepth 20000 in
theorem gX7_farthestFrom_X4_rootOf : GoodIn wsX7_farthestFrom (wsV RX7 81 RX4 yX4_rootOf wsX4_rootOf) := goodIn_app (goodIn_of _ (by decide +kernel)) ggX7_farthestFrom_X4_rootOf
set_option maxRecDepth 20000 in
theorem ggX7_farthestFrom_X4_codeOf : GoodIn wsX7_farthestFrom wsX4_codeOf := goodIn_r _ [36, 37, 21, 22, 23, 10, 24, 25, 55, 56, 57, 58, 59, 60] (by decide +kernel) (by decide +kernel)
set_option maxRecDepth 20000 in
theorem gX7_farthestFrom_X4_codeOf : GoodIn wsX7_farthestFrom (wsV RX7 77 RX4 yX4_codeOf wsX4_codeOf) := goodIn_app (goodIn_of _ (by decide +kernel)) ggX7_farthestFrom_X4_codeOf
set_option maxRecDepth 20000 in
theorem ggX7_farthestFrom_X9_apart : GoodIn wsX7_farthestFrom wsX9_apart := goodIn_r _ [40, 41, 42, 43, 44, 45, 46, 47] (by decide +kernel) (by decide +kernel)
set_option maxRecDepth 20000 in
theorem gX7_farthestFrom_X9_apart_n146 : GoodIn wsX7_farthestFrom (wsX9_apart) := ggX7_farthestFrom_X9_apart
theorem dX7_farthestFrom_0 : decode cX7_farthestFrom 0 = .ok (.iconst 0, 1) := by decide +kernel
theorem dX7_farthestFrom_1 : decode cX7_farthestFrom 1 = .ok (.istore_n 2, 1) := by decide +kernel
theorem dX7_farthestFrom_2 : decode cX7_farthestFrom 2 = .ok (.aload_n 0, 1) := by decide +kernel
theorem dX7_farthestFrom_3 : decode cX7_farthestFrom 3 = .ok (.getfield 25, 3) := by decide +kernel
theorem dX7_farthestFrom_6 : decode cX7_farthestFrom 6 = .ok (.astore_n 3, 1) := by decide +kernel
theorem dX7_farthestFrom_7 : decode cX7_farthestFrom 7 = .ok (.aload_n 3, 1) := by decide +kernel
theorem dX7_farthestFrom_8 : decode cX7_farthestFrom 8 = .ok (.arraylength, 1) := by decide +kernel
theorem dX7_farthestFrom_9 : decode cX7_farthestFrom 9 = .ok (.istore 4, 2) := by decide +kernel
theorem dX7_farthestFrom_11 : decode cX7_farthestFrom 11 = .ok (.iconst 0, 1) := by decide +kernel
theorem dX7_farthestFrom_12 : decode cX7_farthestFrom 12 = .ok (.istore 5, 2) := by decide +kernel
theorem dX7_farthestFrom_14 : decode cX7_farthestFrom 14 = .ok (.iload 5, 2) := by decide +kernel
theorem dX7_farthestFrom_16 : decode cX7_farthestFrom 16 = .ok (.iload 4, 2) := by decide +kernel
theorem dX7_farthestFrom_18 : decode cX7_farthestFrom 18 = .ok (.if_icmp .ge 60, 3) := by decide +kernel
theorem dX7_farthestFrom_21 : decode cX7_farthestFrom 21 = .ok (.aload_n 3, 1) := by decide +kernel
theorem dX7_farthestFrom_22 : decode cX7_farthestFrom 22 = .ok (.iload 5, 2) := by decide +kernel
theorem dX7_farthestFrom_24 : decode cX7_farthestFrom 24 = .ok (.iaload, 1) := by decide +kernel
theorem dX7_farthestFrom_25 : decode cX7_farthestFrom 25 = .ok (.istore 6, 2) := by decide +kernel
theorem dX7_farthestFrom_27 : decode cX7_farthestFrom 27 = .ok (.iload 6, 2) := by decide +kernel
theorem dX7_farthestFrom_29 : decode cX7_farthestFrom 29 = .ok (.bipush (-9), 2) := by decide +kernel
theorem dX7_farthestFrom_31 : decode cX7_farthestFrom 31 = .ok (.if_icmp .eq 41, 3) := by decide +kernel
theorem dX7_farthestFrom_34 : decode cX7_farthestFrom 34 = .ok (.aload_n 0, 1) := by decide +kernel
theorem dX7_farthestFrom_35 : decode cX7_farthestFrom 35 = .ok (.getfield 12, 3) := by decide +kernel
theorem dX7_farthestFrom_38 : decode cX7_farthestFrom 38 = .ok (.aload_n 0, 1) := by decide +kernel
theorem dX7_farthestFrom_39 : decode cX7_farthestFrom 39 = .ok (.getfield 12, 3) := by decide +kernel
theorem dX7_farthestFrom_42 : decode cX7_farthestFrom 42 = .ok (.iload 6, 2) := by decide +kernel
theorem dX7_farthestFrom_44 : decode cX7_farthestFrom 44 = .ok (.invokevirtual 81, 3) := by decide +kernel
theorem dX7_farthestFrom_47 : decode cX7_farthestFrom 47 = .ok (.invokevirtual 77, 3) := by decide +kernel
theorem dX7_farthestFrom_50 : decode cX7_farthestFrom 50 = .ok (.iload_n 1, 1) := by decide +kernel
theorem dX7_farthestFrom_51 : decode cX7_farthestFrom 51 = .ok (.if_icmp .ne 21, 3) := by decide +kernel
theorem dX7_farthestFrom_54 : decode cX7_farthestFrom 54 = .ok (.iload_n 2, 1) := by decide +kernel
theorem dX7_farthestFrom_55 : decode cX7_farthestFrom 55 = .ok (.aload_n 0, 1) := by decide +kernel
theorem dX7_farthestFrom_56 : decode cX7_farthestFrom 56 = .ok (.getfield 12, 3) := by decide +kernel
theorem dX7_farthestFrom_59 : decode cX7_farthestFrom 59 = .ok (.iload 6, 2) := by decide +kernel
theorem dX7_farthestFrom_61 : decode cX7_farthestFrom 61 = .ok (.invokevirtual 77, 3) := by decide +kernel
theorem dX7_farthestFrom_64 : decode cX7_farthestFrom 64 = .ok (.iload_n 1, 1) := by decide +kernel
theorem dX7_farthestFrom_65 : decode cX7_farthestFrom 65 = .ok (.invokestatic 146, 3) := by decide +kernel
theorem dX7_farthestFrom_68 : decode cX7_farthestFrom 68 = .ok (.invokestatic 149, 3) := by decide +kernel
theorem dX7_farthestFrom_71 : decode cX7_farthestFrom 71 = .ok (.istore_n 2, 1) := by decide +kernel
theorem dX7_farthestFrom_72 : decode cX7_farthestFrom 72 = .ok (.iinc 5 1, 3) := by decide +kernel
theorem dX7_farthestFrom_75 : decode cX7_farthestFrom 75 = .ok (.goto (-61), 3) := by decide +kernel
theorem dX7_farthestFrom_78 : decode cX7_farthestFrom 78 = .ok (.iload_n 2, 1) := by decide +kernel
theorem dX7_farthestFrom_79 : decode cX7_farthestFrom 79 = .ok (.ireturn, 1) := by decide +kernel
set_option maxRecDepth 20000 in
theorem ggX7_simulateWay_X2_next : GoodIn wsX7_simulateWay wsX2_next := goodIn_r _ [6, 7, 8] (by decide +kernel) (by decide +kernel)
set_option maxRecDepth 20000 in
theorem gX7_simulateWay_X2_next : GoodIn wsX7_simulateWay (va_wsS RX7 118 yX2_next wsX2_next) := goodIn_app (goodIn_of _ (by decide +kernel)) ggX7_simulateWay_X2_next
set_option maxRecDepth 20000 in
theorem ggX7_simulateWay_X2_learned : GoodIn wsX7_simulateWay wsX2_learned := goodIn_r _ [11, 12, 13, 5, 14, 15, 16, 17] (by decide +kernel) (by decide +kernel)
set_option maxRecDepth 20000 in
theorem gX7_simulateWay_X2_learned : GoodIn wsX7_simulateWay (va_wsS RX7 139 yX2_learned wsX2_learned) := goodIn_app (goodIn_of _ (by decide +kernel)) ggX7_simulateWay_X2_learned
set_option maxRecDepth 20000 in
theorem ggX7_simulateWay_X9_apart : GoodIn wsX7_simulateWay wsX9_apart := goodIn_r _ [20, 21, 22, 23, 24, 25, 26, 27] (by decide +kernel) (by decide +kernel)
set_option maxRecDepth 20000 in
theorem gX7_simulateWay_X9_apart_n146 : GoodIn wsX7_simulateWay (wsX9_apart) := ggX7_simulateWay_X9_apart
theorem dX7_simulateWay_0 : decode cX7_simulateWay 0 = .ok (.lload_n 3, 1) := by decide +kernel
theorem dX7_simulateWay_1 : decode cX7_simulateWay 1 = .ok (.lstore 6, 2) := by decide +kernel
theorem dX7_simulateWay_3 : decode cX7_simulateWay 3 = .ok (.iconst 0, 1) := by decide +kernel
theorem dX7_simulateWay_4 : decode cX7_simulateWay 4 = .ok (.istore 8, 2) := by decide +kernel
theorem dX7_simulateWay_6 : decode cX7_simulateWay 6 = .ok (.iconst 0, 1) := by decide +kernel
theorem dX7_simulateWay_7 : decode cX7_simulateWay 7 = .ok (.istore 9, 2) := by decide +kernel
theorem dX7_simulateWay_9 : decode cX7_simulateWay 9 = .ok (.iload 9, 2) := by decide +kernel
theorem dX7_simulateWay_11 : decode cX7_simulateWay 11 = .ok (.iload 5, 2) := by decide +kernel
theorem dX7_simulateWay_13 : decode cX7_simulateWay 13 = .ok (.if_icmp .ge 78, 3) := by decide +kernel
theorem dX7_simulateWay_16 : decode cX7_simulateWay 16 = .ok (.iload_n 2, 1) := by decide +kernel
theorem dX7_simulateWay_17 : decode cX7_simulateWay 17 = .ok (.istore 10, 2) := by decide +kernel
theorem dX7_simulateWay_19 : decode cX7_simulateWay 19 = .ok (.iload_n 1, 1) := by decide +kernel
theorem dX7_simulateWay_20 : decode cX7_simulateWay 20 = .ok (.iconst 1, 1) := by decide +kernel
theorem dX7_simulateWay_21 : decode cX7_simulateWay 21 = .ok (.iadd, 1) := by decide +kernel
theorem dX7_simulateWay_22 : decode cX7_simulateWay 22 = .ok (.istore 11, 2) := by decide +kernel
theorem dX7_simulateWay_24 : decode cX7_simulateWay 24 = .ok (.iload 11, 2) := by decide +kernel
theorem dX7_simulateWay_26 : decode cX7_simulateWay 26 = .ok (.aload_n 0, 1) := by decide +kernel
theorem dX7_simulateWay_27 : decode cX7_simulateWay 27 = .ok (.getfield 42, 3) := by decide +kernel
theorem dX7_simulateWay_30 : decode cX7_simulateWay 30 = .ok (.if_icmp .ge 30, 3) := by decide +kernel
theorem dX7_simulateWay_33 : decode cX7_simulateWay 33 = .ok (.lload 6, 2) := by decide +kernel
theorem dX7_simulateWay_35 : decode cX7_simulateWay 35 = .ok (.invokestatic 118, 3) := by decide +kernel
theorem dX7_simulateWay_38 : decode cX7_simulateWay 38 = .ok (.lstore 6, 2) := by decide +kernel
theorem dX7_simulateWay_40 : decode cX7_simulateWay 40 = .ok (.iload 10, 2) := by decide +kernel
theorem dX7_simulateWay_42 : decode cX7_simulateWay 42 = .ok (.lload 6, 2) := by decide +kernel
theorem dX7_simulateWay_44 : decode cX7_simulateWay 44 = .ok (.aload_n 0, 1) := by decide +kernel
theorem dX7_simulateWay_45 : decode cX7_simulateWay 45 = .ok (.getfield 46, 3) := by decide +kernel
theorem dX7_simulateWay_48 : decode cX7_simulateWay 48 = .ok (.iconst 1, 1) := by decide +kernel
theorem dX7_simulateWay_49 : decode cX7_simulateWay 49 = .ok (.invokestatic 139, 3) := by decide +kernel
theorem dX7_simulateWay_52 : decode cX7_simulateWay 52 = .ok (.istore 10, 2) := by decide +kernel
theorem dX7_simulateWay_54 : decode cX7_simulateWay 54 = .ok (.iinc 11 1, 3) := by decide +kernel
theorem dX7_simulateWay_57 : decode cX7_simulateWay 57 = .ok (.goto (-33), 3) := by decide +kernel
theorem dX7_simulateWay_60 : decode cX7_simulateWay 60 = .ok (.iload 8, 2) := by decide +kernel
theorem dX7_simulateWay_62 : decode cX7_simulateWay 62 = .ok (.iload 10, 2) := by decide +kernel
theorem dX7_simulateWay_64 : decode cX7_simulateWay 64 = .ok (.iload_n 2, 1) := by decide +kernel
theorem dX7_simulateWay_65 : decode cX7_simulateWay 65 = .ok (.if_icmp .ne 9, 3) := by decide +kernel
theorem dX7_simulateWay_68 : decode cX7_simulateWay 68 = .ok (.sipush 1000, 3) := by decide +kernel
theorem dX7_simulateWay_71 : decode cX7_simulateWay 71 = .ok (.goto 4, 3) := by decide +kernel
theorem dX7_simulateWay_74 : decode cX7_simulateWay 74 = .ok (.iconst 0, 1) := by decide +kernel
theorem dX7_simulateWay_75 : decode cX7_simulateWay 75 = .ok (.iload 10, 2) := by decide +kernel
theorem dX7_simulateWay_77 : decode cX7_simulateWay 77 = .ok (.iload_n 2, 1) := by decide +kernel
theorem dX7_simulateWay_78 : decode cX7_simulateWay 78 = .ok (.invokestatic 146, 3) := by decide +kernel
theorem dX7_simulateWay_81 : decode cX7_simulateWay 81 = .ok (.iadd, 1) := by decide +kernel
theorem dX7_simulateWay_82 : decode cX7_simulateWay 82 = .ok (.iadd, 1) := by decide +kernel
theorem dX7_simulateWay_83 : decode cX7_simulateWay 83 = .ok (.istore 8, 2) := by decide +kernel
theorem dX7_simulateWay_85 : decode cX7_simulateWay 85 = .ok (.iinc 9 1, 3) := by decide +kernel
theorem dX7_simulateWay_88 : decode cX7_simulateWay 88 = .ok (.goto (-79), 3) := by decide +kernel
theorem dX7_simulateWay_91 : decode cX7_simulateWay 91 = .ok (.iload 8, 2) := by decide +kernel
theorem dX7_simulateWay_93 : decode cX7_simulateWay 93 = .ok (.ireturn, 1) := by decide +kernel
theorem dX8_init_0 : decode cX8_init 0 = .ok (.aload_n 0, 1) := by decide +kernel
theorem dX8_init_1 : decode cX8_init 1 = .ok (.invokespecial 3, 3) := by decide +kernel
theorem dX8_init_4 : decode cX8_init 4 = .ok (.aload_n 0, 1) := by decide +kernel
theorem dX8_init_5 : decode cX8_init 5 = .ok (.bipush 120, 2) := by decide +kernel
theorem dX8_init_7 : decode cX8_init 7 = .ok (.newarray .char, 2) := by decide +kernel
theorem dX8_init_9 : decode cX8_init 9 = .ok (.putfield 9, 3) := by decide +kernel
theorem dX8_init_12 : decode cX8_init 12 = .ok (.return_, 1) := by decide +kernel
theorem dX8_length_0 : decode cX8_length 0 = .ok (.aload_n 0, 1) := by decide +kernel
theorem dX8_length_1 : decode cX8_length 1 = .ok (.getfield 15, 3) := by decide +kernel
theorem dX8_length_4 : decode cX8_length 4 = .ok (.ireturn, 1) := by decide +kernel
theorem dX8_isFull_0 : decode cX8_isFull 0 = .ok (.aload_n 0, 1) := by decide +kernel
theorem dX8_isFull_1 : decode cX8_isFull 1 = .ok (.getfield 15, 3) := by decide +kernel
theorem dX8_isFull_4 : decode cX8_isFull 4 = .ok (.bipush 120, 2) := by decide +kernel
theorem dX8_isFull_6 : decode cX8_isFull 6 = .ok (.if_icmp .lt 7, 3) := by decide +kernel
theorem dX8_isFull_9 : decode cX8_isFull 9 = .ok (.iconst 1, 1) := by decide +kernel
theorem dX8_isFull_10 : decode cX8_isFull 10 = .ok (.goto 4, 3) := by decide +kernel
theorem dX8_isFull_13 : decode cX8_isFull 13 = .ok (.iconst 0, 1) := by decide +kernel
theorem dX8_isFull_14 : decode cX8_isFull 14 = .ok (.ireturn, 1) := by decide +kernel
theorem dX8_add_0 : decode cX8_add 0 = .ok (.aload_n 0, 1) := by decide +kernel
theorem dX8_add_1 : decode cX8_add 1 = .ok (.getfield 15, 3) := by decide +kernel
theorem dX8_add_4 : decode cX8_add 4 = .ok (.ifCond .lt 33, 3) := by decide +kernel
theorem dX8_add_7 : decode cX8_add 7 = .ok (.aload_n 0, 1) := by decide +kernel
theorem dX8_add_8 : decode cX8_add 8 = .ok (.getfield 15, 3) := by decide +kernel
theorem dX8_add_11 : decode cX8_add 11 = .ok (.bipush 120, 2) := by decide +kernel
theorem dX8_add_13 : decode cX8_add 13 = .ok (.if_icmp .ge 24, 3) := by decide +kernel
theorem dX8_add_16 : decode cX8_add 16 = .ok (.aload_n 0, 1) := by decide +kernel
theorem dX8_add_17 : decode cX8_add 17 = .ok (.getfield 9, 3) := by decide +kernel
theorem dX8_add_20 : decode cX8_add 20 = .ok (.aload_n 0, 1) := by decide +kernel
theorem dX8_add_21 : decode cX8_add 21 = .ok (.getfield 15, 3) := by decide +kernel
theorem dX8_add_24 : decode cX8_add 24 = .ok (.iload_n 1, 1) := by decide +kernel
theorem dX8_add_25 : decode cX8_add 25 = .ok (.i2c, 1) := by decide +kernel
theorem dX8_add_26 : decode cX8_add 26 = .ok (.castore, 1) := by decide +kernel
theorem dX8_add_27 : decode cX8_add 27 = .ok (.aload_n 0, 1) := by decide +kernel
theorem dX8_add_28 : decode cX8_add 28 = .ok (.dup, 1) := by decide +kernel
theorem dX8_add_29 : decode cX8_add 29 = .ok (.getfield 15, 3) := by decide +kernel
theorem dX8_add_32 : decode cX8_add 32 = .ok (.iconst 1, 1) := by decide +kernel
theorem dX8_add_33 : decode cX8_add 33 = .ok (.iadd, 1) := by decide +kernel
theorem dX8_add_34 : decode cX8_add 34 = .ok (.putfield 15, 3) := by decide +kernel
theorem dX8_add_37 : decode cX8_add 37 = .ok (.aload_n 0, 1) := by decide +kernel
theorem dX8_add_38 : decode cX8_add 38 = .ok (.getfield 15, 3) := by decide +kernel
theorem dX8_add_41 : decode cX8_add 41 = .ok (.ireturn, 1) := by decide +kernel
theorem dX8_empty_0 : decode cX8_empty 0 = .ok (.aload_n 0, 1) := by decide +kernel
theorem dX8_empty_1 : decode cX8_empty 1 = .ok (.getfield 15, 3) := by decide +kernel
theorem dX8_empty_4 : decode cX8_empty 4 = .ok (.istore_n 1, 1) := by decide +kernel
theorem dX8_empty_5 : decode cX8_empty 5 = .ok (.aload_n 0, 1) := by decide +kernel
theorem dX8_empty_6 : decode cX8_empty 6 = .ok (.iconst 0, 1) := by decide +kernel
theorem dX8_empty_7 : decode cX8_empty 7 = .ok (.putfield 15, 3) := by decide +kernel
theorem dX8_empty_10 : decode cX8_empty 10 = .ok (.iload_n 1, 1) := by decide +kernel
theorem dX8_empty_11 : decode cX8_empty 11 = .ok (.ireturn, 1) := by decide +kernel
theorem dX8_signAt_0 : decode cX8_signAt 0 = .ok (.iload_n 1, 1) := by decide +kernel
theorem dX8_signAt_1 : decode cX8_signAt 1 = .ok (.ifCond .lt 26, 3) := by decide +kernel
theorem dX8_signAt_4 : decode cX8_signAt 4 = .ok (.iload_n 1, 1) := by decide +kernel
theorem dX8_signAt_5 : decode cX8_signAt 5 = .ok (.aload_n 0, 1) := by decide +kernel
theorem dX8_signAt_6 : decode cX8_signAt 6 = .ok (.getfield 15, 3) := by decide +kernel
theorem dX8_signAt_9 : decode cX8_signAt 9 = .ok (.if_icmp .ge 18, 3) := by decide +kernel
theorem dX8_signAt_12 : decode cX8_signAt 12 = .ok (.iload_n 1, 1) := by decide +kernel
theorem dX8_signAt_13 : decode cX8_signAt 13 = .ok (.bipush 120, 2) := by decide +kernel
theorem dX8_signAt_15 : decode cX8_signAt 15 = .ok (.if_icmp .ge 12, 3) := by decide +kernel
theorem dX8_signAt_18 : decode cX8_signAt 18 = .ok (.aload_n 0, 1) := by decide +kernel
theorem dX8_signAt_19 : decode cX8_signAt 19 = .ok (.getfield 9, 3) := by decide +kernel
theorem dX8_signAt_22 : decode cX8_signAt 22 = .ok (.iload_n 1, 1) := by decide +kernel
theorem dX8_signAt_23 : decode cX8_signAt 23 = .ok (.caload, 1) := by decide +kernel
theorem dX8_signAt_24 : decode cX8_signAt 24 = .ok (.goto 5, 3) := by decide +kernel
theorem dX8_signAt_27 : decode cX8_signAt 27 = .ok (.bipush (-9), 2) := by decide +kernel
theorem dX8_signAt_29 : decode cX8_signAt 29 = .ok (.ireturn, 1) := by decide +kernel
set_option maxRecDepth 20000 in
theorem ggX9_init_X7_init : GoodIn wsX9_init wsX7_init := goodIn_r _ [27, 28, 2, 3, 29, 30, 31, 32, 33, 34, 35, 36, 37, 38, 39, 40, 41, 42, 43, 44, 45, 46, 47, 48, 49, 50, 51, 52, 53, 54, 55, 6, 56, 57, 58, 59, 60, 61, 62, 63, 64, 65, 66, 67, 68, 69, 70, 71, 72, 73, 74, 75, 119, 120, 121, 122, 123, 124, 98, 99, 100, 101, 102, 103, 104, 125, 126, 127, 128, 129] (by decide +kernel) (by decide +kernel)
set_option maxRecDepth 20000 in
theorem gX9_init_X7_init : GoodIn wsX9_init (wsX7_init) := ggX9_init_X7_init
set_option maxRecDepth 20000 in
theorem ggX9_init_X1_init : GoodIn wsX9_init wsX1_init := goodIn_r _ [78, 79, 2, 3, 80, 81, 5, 6, 82, 26, 27, 28, 29, 30, 31, 32, 33, 34, 35, 36, 37, 38, 39, 40, 41, 42, 43, 44, 45, 46, 47, 48, 49, 50, 51, 52, 53, 54, 55, 56, 57, 58, 59, 60, 61, 62, 63, 64, 65, 66, 67, 68, 69, 70, 71, 72, 73, 74, 75, 111, 112, 113, 98, 99, 100, 101, 102, 103, 104, 119, 120, 121, 122, 123, 124, 125, 126, 127, 128, 129] (by decide +kernel) (by decide +kernel)
set_option maxRecDepth 20000 in
theorem gX9_init_X1_init : GoodIn wsX9_init (wsX1_init) := ggX9_init_X1_init
set_option maxRecDepth 20000 in
theorem ggX9_init_X6_init : GoodIn wsX9_init wsX6_init := goodIn_r _ [85, 86, 2, 3, 87, 88, 5, 6, 89, 26, 27, 28, 29, 30, 31, 32, 33, 34, 35, 36, 37, 38, 39, 40, 41, 42, 43, 44, 45, 46, 47, 48, 49, 50, 51, 52, 53, 54, 55, 56, 57, 58, 59, 60, 61, 62, 63, 64, 65, 66, 67, 68, 69, 70, 71, 72, 73, 74, 75, 114, 115, 98, 99, 100, 101, 102, 103, 104, 119, 120, 121, 122, 123, 124, 125, 126, 127, 128, 129] (by decide +kernel) (by decide +kernel)
set_option maxRecDepth 20000 in
theorem gX9_init_X6_init : GoodIn wsX9_init (wsX6_init) := ggX9_init_X6_init
set_option maxRecDepth 20000 in
theorem ggX9_init_X8_init : GoodIn wsX9_init wsX8_init := goodIn_r _ [91, 92, 2, 3, 93, 94, 116, 117] (by decide +kernel) (by decide +kernel)
set_option maxRecDepth 20000 in
theorem gX9_init_X8_init_n35 : GoodIn wsX9_init (wsX8_init) := ggX9_init_X8_init
set_option maxRecDepth 20000 in
theorem ggX9_init_X3_init : GoodIn wsX9_init wsX3_init := goodIn_r _ [96, 97, 2, 3] (by decide +kernel) (by decide +kernel)
set_option maxRecDepth 20000 in
theorem gX9_init_X3_init_n42 : GoodIn wsX9_init (wsX3_init) := ggX9_init_X3_init
theorem dX9_init_0 : decode cX9_init 0 = .ok (.aload_n 0, 1) := by decide +kernel
theorem dX9_init_1 : decode cX9_init 1 = .ok (.invokespecial 1, 3) := by decide +kernel
theorem dX9_init_4 : decode cX9_init 4 = .ok (.aload_n 0, 1) := by decide +kernel
theorem dX9_init_5 : decode cX9_init 5 = .ok (.new 7, 3) := by decide +kernel
theorem dX9_init_8 : decode cX9_init 8 = .ok (.dup, 1) := by decide +kernel
theorem dX9_init_9 : decode cX9_init 9 = .ok (.invokespecial 9, 3) := by decide +kernel
theorem dX9_init_12 : decode cX9_init 12 = .ok (.putfield 10, 3) := by decide +kernel
theorem dX9_init_15 : decode cX9_init 15 = .ok (.aload_n 0, 1) := by decide +kernel
theorem dX9_init_16 : decode cX9_init 16 = .ok (.new 7, 3) := by decide +kernel
theorem dX9_init_19 : decode cX9_init 19 = .ok (.dup, 1) := by decide +kernel
theorem dX9_init_20 : decode cX9_init 20 = .ok (.invokespecial 9, 3) := by decide +kernel
theorem dX9_init_23 : decode cX9_init 23 = .ok (.putfield 16, 3) := by decide +kernel
theorem dX9_init_26 : decode cX9_init 26 = .ok (.aload_n 0, 1) := by decide +kernel
theorem dX9_init_27 : decode cX9_init 27 = .ok (.new 19, 3) := by decide +kernel
theorem dX9_init_30 : decode cX9_init 30 = .ok (.dup, 1) := by decide +kernel
theorem dX9_init_31 : decode cX9_init 31 = .ok (.invokespecial 21, 3) := by decide +kernel
theorem dX9_init_34 : decode cX9_init 34 = .ok (.putfield 22, 3) := by decide +kernel
theorem dX9_init_37 : decode cX9_init 37 = .ok (.aload_n 0, 1) := by decide +kernel
theorem dX9_init_38 : decode cX9_init 38 = .ok (.new 26, 3) := by decide +kernel
theorem dX9_init_41 : decode cX9_init 41 = .ok (.dup, 1) := by decide +kernel
theorem dX9_init_42 : decode cX9_init 42 = .ok (.invokespecial 28, 3) := by decide +kernel
theorem dX9_init_45 : decode cX9_init 45 = .ok (.putfield 29, 3) := by decide +kernel
theorem dX9_init_48 : decode cX9_init 48 = .ok (.aload_n 0, 1) := by decide +kernel
theorem dX9_init_49 : decode cX9_init 49 = .ok (.new 33, 3) := by decide +kernel
theorem dX9_init_52 : decode cX9_init 52 = .ok (.dup, 1) := by decide +kernel
theorem dX9_init_53 : decode cX9_init 53 = .ok (.invokespecial 35, 3) := by decide +kernel
theorem dX9_init_56 : decode cX9_init 56 = .ok (.putfield 36, 3) := by decide +kernel
theorem dX9_init_59 : decode cX9_init 59 = .ok (.aload_n 0, 1) := by decide +kernel
theorem dX9_init_60 : decode cX9_init 60 = .ok (.new 40, 3) := by decide +kernel
theorem dX9_init_63 : decode cX9_init 63 = .ok (.dup, 1) := by decide +kernel
theorem dX9_init_64 : decode cX9_init 64 = .ok (.invokespecial 42, 3) := by decide +kernel
theorem dX9_init_67 : decode cX9_init 67 = .ok (.putfield 43, 3) := by decide +kernel
theorem dX9_init_70 : decode cX9_init 70 = .ok (.return_, 1) := by decide +kernel
set_option maxRecDepth 20000 in
theorem ggX9_append_X9_isWithin : GoodIn wsX9_append wsX9_isWithin := goodIn_r _ [5] (by decide +kernel) (by decide +kernel)
set_option maxRecDepth 20000 in
theorem gX9_append_X9_isWithin : GoodIn wsX9_append (va_wsS RX9 47 yX9_isWithin wsX9_isWithin) := goodIn_app (goodIn_of _ (by decide +kernel)) ggX9_append_X9_isWithin
set_option maxRecDepth 20000 in
theorem ggX9_append_X9_requireArgument : GoodIn wsX9_append wsX9_requireArgument := goodIn_ca (goodIn_r _ [8, 9, 10] (by decide +kernel) (by decide +kernel)) (goodIn_sub (fun _ h => List.mem_cons_of_mem _ (List.mem_append_left _ (List.mem_append_right _ h))) (by decide +kernel))
set_option maxRecDepth 20000 in
theorem gX9_append_X9_requireArgument : GoodIn wsX9_append (va_wsS RX9 51 yX9_requireArgument wsX9_requireArgument) := goodIn_app (goodIn_of _ (by decide +kernel)) ggX9_append_X9_requireArgument
set_option maxRecDepth 20000 in
theorem ggX9_append_X8_isFull : GoodIn wsX9_append wsX8_isFull := goodIn_r _ [15, 16, 33, 34] (by decide +kernel) (by decide +kernel)
set_option maxRecDepth 20000 in
theorem gX9_append_X8_isFull : GoodIn wsX9_append (wsV RX9 55 RX8 yX8_isFull wsX8_isFull) := goodIn_app (goodIn_of _ (by decide +kernel)) ggX9_append_X8_isFull
set_option maxRecDepth 20000 in
theorem ggX9_append_X9_requireState : GoodIn wsX9_append wsX9_requireState := goodIn_ca (goodIn_r _ [19, 20, 21] (by decide +kernel) (by decide +kernel)) (goodIn_sub (fun _ h => List.mem_cons_of_mem _ (List.mem_append_right _ h)) (by decide +kernel))
set_option maxRecDepth 20000 in
theorem gX9_append_X9_requireState : GoodIn wsX9_append (va_wsS RX9 59 yX9_requireState wsX9_requireState) := goodIn_app (goodIn_of _ (by decide +kernel)) ggX9_append_X9_requireState
set_option maxRecDepth 20000 in
theorem ggX9_append_X8_add : GoodIn wsX9_append wsX8_add := goodIn_r _ [25, 16, 26, 33, 34] (by decide +kernel) (by decide +kernel)
set_option maxRecDepth 20000 in
theorem gX9_append_X8_add : GoodIn wsX9_append (wsV RX9 62 RX8 yX8_add wsX8_add) := goodIn_app (goodIn_of _ (by decide +kernel)) ggX9_append_X8_add
theorem dX9_append_0 : decode cX9_append 0 = .ok (.iload_n 1, 1) := by decide +kernel
theorem dX9_append_1 : decode cX9_append 1 = .ok (.iconst 0, 1) := by decide +kernel
theorem dX9_append_2 : decode cX9_append 2 = .ok (.sipush 255, 3) := by decide +kernel
theorem dX9_append_5 : decode cX9_append 5 = .ok (.invokestatic 47, 3) := by decide +kernel
theorem dX9_append_8 : decode cX9_append 8 = .ok (.invokestatic 51, 3) := by decide +kernel
theorem dX9_append_11 : decode cX9_append 11 = .ok (.aload_n 0, 1) := by decide +kernel
theorem dX9_append_12 : decode cX9_append 12 = .ok (.getfield 36, 3) := by decide +kernel
theorem dX9_append_15 : decode cX9_append 15 = .ok (.invokevirtual 55, 3) := by decide +kernel
theorem dX9_append_18 : decode cX9_append 18 = .ok (.ifCond .ne 7, 3) := by decide +kernel
theorem dX9_append_21 : decode cX9_append 21 = .ok (.iconst 1, 1) := by decide +kernel
theorem dX9_append_22 : decode cX9_append 22 = .ok (.goto 4, 3) := by decide +kernel
theorem dX9_append_25 : decode cX9_append 25 = .ok (.iconst 0, 1) := by decide +kernel
theorem dX9_append_26 : decode cX9_append 26 = .ok (.invokestatic 59, 3) := by decide +kernel
theorem dX9_append_29 : decode cX9_append 29 = .ok (.aload_n 0, 1) := by decide +kernel
theorem dX9_append_30 : decode cX9_append 30 = .ok (.getfield 36, 3) := by decide +kernel
theorem dX9_append_33 : decode cX9_append 33 = .ok (.iload_n 1, 1) := by decide +kernel
theorem dX9_append_34 : decode cX9_append 34 = .ok (.invokevirtual 62, 3) := by decide +kernel
theorem dX9_append_37 : decode cX9_append 37 = .ok (.ireturn, 1) := by decide +kernel
set_option maxRecDepth 20000 in
theorem ggX9_clearText_X8_empty : GoodIn wsX9_clearText wsX8_empty := goodIn_r _ [6, 7, 14, 15] (by decide +kernel) (by decide +kernel)
set_option maxRecDepth 20000 in
theorem gX9_clearText_X8_empty : GoodIn wsX9_clearText (wsV RX9 66 RX8 yX8_empty wsX8_empty) := goodIn_app (goodIn_of _ (by decide +kernel)) ggX9_clearText_X8_empty
theorem dX9_clearText_0 : decode cX9_clearText 0 = .ok (.aload_n 0, 1) := by decide +kernel
theorem dX9_clearText_1 : decode cX9_clearText 1 = .ok (.getfield 36, 3) := by decide +kernel
theorem dX9_clearText_4 : decode cX9_clearText 4 = .ok (.invokevirtual 66, 3) := by decide +kernel
theorem dX9_clearText_7 : decode cX9_clearText 7 = .ok (.ireturn, 1) := by decide +kernel
set_option maxRecDepth 20000 in
theorem ggX9_errorPosition_X3_read : GoodIn wsX9_errorPosition wsX3_read := goodIn_r _ [8, 9, 10, 11, 12, 7, 13, 14, 15, 16, 17, 18, 19, 20, 21, 22, 23, 24, 25, 26, 27, 28, 29, 30, 31, 32, 33, 34, 35, 36, 37, 38, 39, 40, 41, 42, 43, 44, 45, 46, 47, 48, 49, 50, 51, 52, 53, 54, 55, 56, 57, 58, 59, 60, 61, 62, 63, 64, 65, 66, 67, 68, 69, 70, 71, 72, 73, 74, 75, 76, 77, 78, 79, 80, 81, 82, 83, 84, 85, 86, 87, 88, 89, 90, 91, 92, 93, 94, 95, 96, 97, 98, 99, 100, 101, 102, 103, 104, 105, 106, 107, 108, 109, 110, 111, 112, 113, 114, 115, 116, 117, 118, 119, 120, 121, 122, 123, 124, 125, 126, 127, 134, 135, 136, 137, 138, 139, 140, 141, 142, 143, 144, 145, 146, 147, 148, 149, 150, 151, 152, 153, 154] (by decide +kernel) (by decide +kernel)
set_option maxRecDepth 20000 in
theorem gX9_errorPosition_X3_read : GoodIn wsX9_errorPosition (wsV RX9 70 RX3 yX3_read wsX3_read) := goodIn_app (goodIn_of _ (by decide +kernel)) ggX9_errorPosition_X3_read
theorem dX9_errorPosition_0 : decode cX9_errorPosition 0 = .ok (.aload_n 0, 1) := by decide +kernel
theorem dX9_errorPosition_1 : decode cX9_errorPosition 1 = .ok (.getfield 43, 3) := by decide +kernel
theorem dX9_errorPosition_4 : decode cX9_errorPosition 4 = .ok (.aload_n 0, 1) := by decide +kernel
theorem dX9_errorPosition_5 : decode cX9_errorPosition 5 = .ok (.getfield 36, 3) := by decide +kernel
theorem dX9_errorPosition_8 : decode cX9_errorPosition 8 = .ok (.aload_n 0, 1) := by decide +kernel
theorem dX9_errorPosition_9 : decode cX9_errorPosition 9 = .ok (.getfield 16, 3) := by decide +kernel
theorem dX9_errorPosition_12 : decode cX9_errorPosition 12 = .ok (.invokevirtual 70, 3) := by decide +kernel
theorem dX9_errorPosition_15 : decode cX9_errorPosition 15 = .ok (.ireturn, 1) := by decide +kernel
set_option maxRecDepth 20000 in
theorem ggX9_load_X3_read : GoodIn wsX9_load wsX3_read := goodIn_r _ [11, 12, 13, 14, 15, 10, 16, 17, 18, 19, 20, 21, 22, 23, 24, 25, 26, 27, 28, 29, 30, 31, 32, 33, 34, 35, 36, 37, 38, 39, 40, 41, 42, 43, 44, 45, 46, 47, 48, 49, 50, 51, 52, 53, 54, 55, 56, 57, 58, 59, 60, 61, 62, 63, 64, 65, 66, 67, 68, 69, 70, 71, 72, 73, 74, 75, 76, 77, 78, 79, 80, 81, 82, 83, 84, 85, 86, 87, 88, 89, 90, 91, 92, 93, 94, 95, 96, 97, 98, 99, 100, 101, 102, 103, 104, 105, 106, 107, 108, 109, 110, 111, 112, 113, 114, 115, 116, 117, 118, 119, 120, 121, 122, 123, 124, 125, 126, 127, 128, 129, 130, 180, 181, 182, 173, 174, 175, 176, 177, 178, 179, 183, 184, 185, 186, 187, 188, 189, 190, 191, 192, 193] (by decide +kernel) (by decide +kernel)
set_option maxRecDepth 20000 in
theorem gX9_load_X3_read : GoodIn wsX9_load (wsV RX9 70 RX3 yX3_read wsX3_read) := goodIn_app (goodIn_of _ (by decide +kernel)) ggX9_load_X3_read
set_option maxRecDepth 20000 in
theorem ggX9_load_X9_requireState : GoodIn wsX9_load wsX9_requireState := goodIn_ca (goodIn_r _ [133, 134, 135] (by decide +kernel) (by decide +kernel)) (goodIn_sub (fun _ h => List.mem_cons_of_mem _ (List.mem_append_right _ h)) (by decide +kernel))
set_option maxRecDepth 20000 in
theorem gX9_load_X9_requireState : GoodIn wsX9_load (va_wsS RX9 59 yX9_requireState wsX9_requireState) := goodIn_app (goodIn_of _ (by decide +kernel)) ggX9_load_X9_requireState
set_option maxRecDepth 20000 in
theorem ggX9_load_X7_copyFrom : GoodIn wsX9_load wsX7_copyFrom := goodIn_r _ [139, 38, 39, 40, 140, 141, 142, 143, 41, 42, 43, 44, 144, 145, 146, 48, 147, 90, 148, 91, 92, 93, 94, 50, 149, 150, 151, 54, 152, 119, 153, 120, 121, 56, 57, 173, 174, 175, 176, 177, 178, 179, 183, 184, 185, 186, 187, 188, 189, 190, 191, 192, 193] (by decide +kernel) (by decide +kernel)
set_option maxRecDepth 20000 in
theorem gX9_load_X7_copyFrom : GoodIn wsX9_load (wsV RX9 74 RX7 yX7_copyFrom wsX7_copyFrom) := goodIn_app (goodIn_of _ (by decide +kernel)) ggX9_load_X7_copyFrom
set_option maxRecDepth 20000 in
theorem ggX9_load_X1_forgetAll : GoodIn wsX9_load wsX1_forgetAll := goodIn_r _ [158, 159, 194, 195, 196] (by decide +kernel) (by decide +kernel)
set_option maxRecDepth 20000 in
theorem gX9_load_X1_forgetAll : GoodIn wsX9_load (wsV RX9 78 RX1 yX1_forgetAll wsX1_forgetAll) := goodIn_app (goodIn_of _ (by decide +kernel)) ggX9_load_X1_forgetAll
set_option maxRecDepth 20000 in
theorem ggX9_load_X6_emptyAll : GoodIn wsX9_load wsX6_emptyAll := goodIn_r _ [164, 165, 197, 198] (by decide +kernel) (by decide +kernel)
set_option maxRecDepth 20000 in
theorem gX9_load_X6_emptyAll : GoodIn wsX9_load (wsV RX9 81 RX6 yX6_emptyAll wsX6_emptyAll) := goodIn_app (goodIn_of _ (by decide +kernel)) ggX9_load_X6_emptyAll
set_option maxRecDepth 20000 in
theorem ggX9_load_X4_count : GoodIn wsX9_load wsX4_count := goodIn_r _ [73, 50, 183, 184, 185, 186, 187, 188] (by decide +kernel) (by decide +kernel)
set_option maxRecDepth 20000 in
theorem gX9_load_X4_count : GoodIn wsX9_load (wsV RX9 88 RX4 yX4_count wsX4_count) := goodIn_app (goodIn_of _ (by decide +kernel)) ggX9_load_X4_count
theorem dX9_load_0 : decode cX9_load 0 = .ok (.aload_n 0, 1) := by decide +kernel
theorem dX9_load_1 : decode cX9_load 1 = .ok (.getfield 43, 3) := by decide +kernel
theorem dX9_load_4 : decode cX9_load 4 = .ok (.aload_n 0, 1) := by decide +kernel
theorem dX9_load_5 : decode cX9_load 5 = .ok (.getfield 36, 3) := by decide +kernel
theorem dX9_load_8 : decode cX9_load 8 = .ok (.aload_n 0, 1) := by decide +kernel
theorem dX9_load_9 : decode cX9_load 9 = .ok (.getfield 16, 3) := by decide +kernel
theorem dX9_load_12 : decode cX9_load 12 = .ok (.invokevirtual 70, 3) := by decide +kernel
theorem dX9_load_15 : decode cX9_load 15 = .ok (.bipush (-9), 2) := by decide +kernel
theorem dX9_load_17 : decode cX9_load 17 = .ok (.if_icmp .ne 7, 3) := by decide +kernel
theorem dX9_load_20 : decode cX9_load 20 = .ok (.iconst 1, 1) := by decide +kernel
theorem dX9_load_21 : decode cX9_load 21 = .ok (.goto 4, 3) := by decide +kernel
theorem dX9_load_24 : decode cX9_load 24 = .ok (.iconst 0, 1) := by decide +kernel
theorem dX9_load_25 : decode cX9_load 25 = .ok (.invokestatic 59, 3) := by decide +kernel
theorem dX9_load_28 : decode cX9_load 28 = .ok (.aload_n 0, 1) := by decide +kernel
theorem dX9_load_29 : decode cX9_load 29 = .ok (.getfield 10, 3) := by decide +kernel
theorem dX9_load_32 : decode cX9_load 32 = .ok (.aload_n 0, 1) := by decide +kernel
theorem dX9_load_33 : decode cX9_load 33 = .ok (.getfield 16, 3) := by decide +kernel
theorem dX9_load_36 : decode cX9_load 36 = .ok (.invokevirtual 74, 3) := by decide +kernel
theorem dX9_load_39 : decode cX9_load 39 = .ok (.aload_n 0, 1) := by decide +kernel
theorem dX9_load_40 : decode cX9_load 40 = .ok (.getfield 22, 3) := by decide +kernel
theorem dX9_load_43 : decode cX9_load 43 = .ok (.invokevirtual 78, 3) := by decide +kernel
theorem dX9_load_46 : decode cX9_load 46 = .ok (.aload_n 0, 1) := by decide +kernel
theorem dX9_load_47 : decode cX9_load 47 = .ok (.getfield 29, 3) := by decide +kernel
theorem dX9_load_50 : decode cX9_load 50 = .ok (.invokevirtual 81, 3) := by decide +kernel
theorem dX9_load_53 : decode cX9_load 53 = .ok (.aload_n 0, 1) := by decide +kernel
theorem dX9_load_54 : decode cX9_load 54 = .ok (.getfield 10, 3) := by decide +kernel
theorem dX9_load_57 : decode cX9_load 57 = .ok (.getfield 84, 3) := by decide +kernel
theorem dX9_load_60 : decode cX9_load 60 = .ok (.invokevirtual 88, 3) := by decide +kernel
theorem dX9_load_63 : decode cX9_load 63 = .ok (.ireturn, 1) := by decide +kernel
set_option maxRecDepth 20000 in
theorem ggX9_about_X9_isWithin : GoodIn wsX9_about wsX9_isWithin := goodIn_r _ [5] (by decide +kernel) (by decide +kernel)
set_option maxRecDepth 20000 in
theorem gX9_about_X9_isWithin : GoodIn wsX9_about (va_wsS RX9 47 yX9_isWithin wsX9_isWithin) := goodIn_app (goodIn_of _ (by decide +kernel)) ggX9_about_X9_isWithin
set_option maxRecDepth 20000 in
theorem ggX9_about_X9_requireArgument : GoodIn wsX9_about wsX9_requireArgument := goodIn_ca (goodIn_r _ [8, 9, 10] (by decide +kernel) (by decide +kernel)) (goodIn_sub (fun _ h => List.mem_cons_of_mem _ (List.mem_append_right _ h)) (by decide +kernel))
set_option maxRecDepth 20000 in
theorem gX9_about_X9_requireArgument : GoodIn wsX9_about (va_wsS RX9 51 yX9_requireArgument wsX9_requireArgument) := goodIn_app (goodIn_of _ (by decide +kernel)) ggX9_about_X9_requireArgument
set_option maxRecDepth 20000 in
theorem ggX9_about_X7_houses : GoodIn wsX9_about wsX7_houses := goodIn_r _ [15, 16, 112, 113, 114, 115, 116, 117, 118] (by decide +kernel) (by decide +kernel)
set_option maxRecDepth 20000 in
theorem gX9_about_X7_houses : GoodIn wsX9_about (wsV RX9 93 RX7 yX7_houses wsX7_houses) := goodIn_app (goodIn_of _ (by decide +kernel)) ggX9_about_X7_houses
set_option maxRecDepth 20000 in
theorem ggX9_about_X0_count : GoodIn wsX9_about wsX0_count := goodIn_r _ [21, 22, 119, 120, 121, 122, 123] (by decide +kernel) (by decide +kernel)
set_option maxRecDepth 20000 in
theorem gX9_about_X0_count : GoodIn wsX9_about (wsV RX9 100 RX0 yX0_count wsX0_count) := goodIn_app (goodIn_of _ (by decide +kernel)) ggX9_about_X0_count
set_option maxRecDepth 20000 in
theorem ggX9_about_X4_count : GoodIn wsX9_about wsX4_count := goodIn_r _ [27, 28, 124, 125, 126, 127, 128, 129] (by decide +kernel) (by decide +kernel)
set_option maxRecDepth 20000 in
theorem gX9_about_X4_count : GoodIn wsX9_about (wsV RX9 88 RX4 yX4_count wsX4_count) := goodIn_app (goodIn_of _ (by decide +kernel)) ggX9_about_X4_count
set_option maxRecDepth 20000 in
theorem ggX9_about_X7_noise : GoodIn wsX9_about wsX7_noise := goodIn_r _ [32, 33, 112, 113, 114, 115, 116, 117, 118] (by decide +kernel) (by decide +kernel)
set_option maxRecDepth 20000 in
theorem gX9_about_X7_noise : GoodIn wsX9_about (wsV RX9 103 RX7 yX7_noise wsX7_noise) := goodIn_app (goodIn_of _ (by decide +kernel)) ggX9_about_X7_noise
set_option maxRecDepth 20000 in
theorem ggX9_about_X7_reach : GoodIn wsX9_about wsX7_reach := goodIn_r _ [37, 38, 112, 113, 114, 115, 116, 117, 118] (by decide +kernel) (by decide +kernel)
set_option maxRecDepth 20000 in
theorem gX9_about_X7_reach : GoodIn wsX9_about (wsV RX9 106 RX7 yX7_reach wsX7_reach) := goodIn_app (goodIn_of _ (by decide +kernel)) ggX9_about_X7_reach
set_option maxRecDepth 20000 in
theorem ggX9_about_X4_taught : GoodIn wsX9_about wsX4_taught := goodIn_r _ [42, 28, 43, 44, 45, 26, 46, 47, 48, 49, 50, 51, 52, 53, 54, 55, 124, 125, 126, 127, 128, 129] (by decide +kernel) (by decide +kernel)
set_option maxRecDepth 20000 in
theorem gX9_about_X4_taught : GoodIn wsX9_about (wsV RX9 109 RX4 yX4_taught wsX4_taught) := goodIn_app (goodIn_of _ (by decide +kernel)) ggX9_about_X4_taught
set_option maxRecDepth 20000 in
theorem ggX9_about_X4_wrong : GoodIn wsX9_about wsX4_wrong := goodIn_r _ [59, 28, 60, 61, 62, 26, 63, 64, 52, 53, 54, 55, 124, 125, 126, 127, 128, 129] (by decide +kernel) (by decide +kernel)
set_option maxRecDepth 20000 in
theorem gX9_about_X4_wrong : GoodIn wsX9_about (wsV RX9 112 RX4 yX4_wrong wsX4_wrong) := goodIn_app (goodIn_of _ (by decide +kernel)) ggX9_about_X4_wrong
set_option maxRecDepth 20000 in
theorem ggX9_about_X0_on : GoodIn wsX9_about wsX0_on := goodIn_r _ [68, 69, 119, 120, 121, 122, 123] (by decide +kernel) (by decide +kernel)
set_option maxRecDepth 20000 in
theorem gX9_about_X0_on : GoodIn wsX9_about (wsV RX9 115 RX0 yX0_on wsX0_on) := goodIn_app (goodIn_of _ (by decide +kernel)) ggX9_about_X0_on
set_option maxRecDepth 20000 in
theorem ggX9_about_X7_differentRoots : GoodIn wsX9_about wsX7_differentRoots := goodIn_r _ [73, 74, 75, 76, 77, 78, 26, 79, 80, 81, 82, 83, 47, 48, 49, 50, 51, 52, 53, 54, 55, 28, 84, 85, 86, 87, 88, 89, 90, 91, 92, 93, 94, 95, 96, 97, 98, 112, 113, 114, 115, 116, 117, 118, 124, 125, 126, 127, 128, 129] (by decide +kernel) (by decide +kernel)
set_option maxRecDepth 20000 in
theorem gX9_about_X7_differentRoots : GoodIn wsX9_about (wsV RX9 118 RX7 yX7_differentRoots wsX7_differentRoots) := goodIn_app (goodIn_of _ (by decide +kernel)) ggX9_about_X7_differentRoots
set_option maxRecDepth 20000 in
theorem ggX9_about_X4_greatestGeneration : GoodIn wsX9_about wsX4_greatestGeneration := goodIn_r _ [102, 28, 103, 104, 90, 105, 80, 81, 82, 26, 83, 47, 48, 49, 50, 51, 52, 53, 54, 55, 124, 125, 126, 127, 128, 129] (by decide +kernel) (by decide +kernel)
set_option maxRecDepth 20000 in
theorem gX9_about_X4_greatestGeneration : GoodIn wsX9_about (wsV RX9 121 RX4 yX4_greatestGeneration wsX4_greatestGeneration) := goodIn_app (goodIn_of _ (by decide +kernel)) ggX9_about_X4_greatestGeneration
theorem dX9_about_0 : decode cX9_about 0 = .ok (.iload_n 1, 1) := by decide +kernel
theorem dX9_about_1 : decode cX9_about 1 = .ok (.iconst 0, 1) := by decide +kernel
theorem dX9_about_2 : decode cX9_about 2 = .ok (.bipush 9, 2) := by decide +kernel
theorem dX9_about_4 : decode cX9_about 4 = .ok (.invokestatic 47, 3) := by decide +kernel
theorem dX9_about_7 : decode cX9_about 7 = .ok (.invokestatic 51, 3) := by decide +kernel
theorem dX9_about_10 : decode cX9_about 10 = .ok (.iload_n 1, 1) := by decide +kernel
theorem dX9_about_11 : decode cX9_about 11 = .ok (.tableswitch 136 0 8 #[49, 57, 68, 79, 87, 95, 106, 117, 128], 49) := by decide +kernel
theorem dX9_about_60 : decode cX9_about 60 = .ok (.aload_n 0, 1) := by decide +kernel
theorem dX9_about_61 : decode cX9_about 61 = .ok (.getfield 10, 3) := by decide +kernel
theorem dX9_about_64 : decode cX9_about 64 = .ok (.invokevirtual 93, 3) := by decide +kernel
theorem dX9_about_67 : decode cX9_about 67 = .ok (.ireturn, 1) := by decide +kernel
theorem dX9_about_68 : decode cX9_about 68 = .ok (.aload_n 0, 1) := by decide +kernel
theorem dX9_about_69 : decode cX9_about 69 = .ok (.getfield 10, 3) := by decide +kernel
theorem dX9_about_72 : decode cX9_about 72 = .ok (.getfield 96, 3) := by decide +kernel
theorem dX9_about_75 : decode cX9_about 75 = .ok (.invokevirtual 100, 3) := by decide +kernel
theorem dX9_about_78 : decode cX9_about 78 = .ok (.ireturn, 1) := by decide +kernel
theorem dX9_about_79 : decode cX9_about 79 = .ok (.aload_n 0, 1) := by decide +kernel
theorem dX9_about_80 : decode cX9_about 80 = .ok (.getfield 10, 3) := by decide +kernel
theorem dX9_about_83 : decode cX9_about 83 = .ok (.getfield 84, 3) := by decide +kernel
theorem dX9_about_86 : decode cX9_about 86 = .ok (.invokevirtual 88, 3) := by decide +kernel
theorem dX9_about_89 : decode cX9_about 89 = .ok (.ireturn, 1) := by decide +kernel
theorem dX9_about_90 : decode cX9_about 90 = .ok (.aload_n 0, 1) := by decide +kernel
theorem dX9_about_91 : decode cX9_about 91 = .ok (.getfield 10, 3) := by decide +kernel
theorem dX9_about_94 : decode cX9_about 94 = .ok (.invokevirtual 103, 3) := by decide +kernel
theorem dX9_about_97 : decode cX9_about 97 = .ok (.ireturn, 1) := by decide +kernel
theorem dX9_about_98 : decode cX9_about 98 = .ok (.aload_n 0, 1) := by decide +kernel
theorem dX9_about_99 : decode cX9_about 99 = .ok (.getfield 10, 3) := by decide +kernel
theorem dX9_about_102 : decode cX9_about 102 = .ok (.invokevirtual 106, 3) := by decide +kernel
theorem dX9_about_105 : decode cX9_about 105 = .ok (.ireturn, 1) := by decide +kernel
theorem dX9_about_106 : decode cX9_about 106 = .ok (.aload_n 0, 1) := by decide +kernel
theorem dX9_about_107 : decode cX9_about 107 = .ok (.getfield 10, 3) := by decide +kernel
theorem dX9_about_110 : decode cX9_about 110 = .ok (.getfield 84, 3) := by decide +kernel
theorem dX9_about_113 : decode cX9_about 113 = .ok (.invokevirtual 109, 3) := by decide +kernel
theorem dX9_about_116 : decode cX9_about 116 = .ok (.ireturn, 1) := by decide +kernel
theorem dX9_about_117 : decode cX9_about 117 = .ok (.aload_n 0, 1) := by decide +kernel
theorem dX9_about_118 : decode cX9_about 118 = .ok (.getfield 10, 3) := by decide +kernel
theorem dX9_about_121 : decode cX9_about 121 = .ok (.getfield 84, 3) := by decide +kernel
theorem dX9_about_124 : decode cX9_about 124 = .ok (.invokevirtual 112, 3) := by decide +kernel
