theorem dL_key_445 : decode cL_key 445 = .ok (.iconst 4, 1) := by decide +kernel
theorem dL_key_446 : decode cL_key 446 = .ok (.invokevirtual 9, 3) := by decide +kernel
theorem dL_key_449 : decode cL_key 449 = .ok (.if_icmp .gt 37, 3) := by decide +kernel
theorem dL_key_452 : decode cL_key 452 = .ok (.aload_n 0, 1) := by decide +kernel
theorem dL_key_453 : decode cL_key 453 = .ok (.iload 10, 2) := by decide +kernel
theorem dL_key_455 : decode cL_key 455 = .ok (.iconst 1, 1) := by decide +kernel
theorem dL_key_456 : decode cL_key 456 = .ok (.invokevirtual 47, 3) := by decide +kernel
theorem dL_key_459 : decode cL_key 459 = .ok (.aload_n 0, 1) := by decide +kernel
theorem dL_key_460 : decode cL_key 460 = .ok (.iload_n 1, 1) := by decide +kernel
theorem dL_key_461 : decode cL_key 461 = .ok (.iload_n 2, 1) := by decide +kernel
theorem dL_key_462 : decode cL_key 462 = .ok (.iconst 0, 1) := by decide +kernel
theorem dL_key_463 : decode cL_key 463 = .ok (.invokevirtual 19, 3) := by decide +kernel
theorem dL_key_466 : decode cL_key 466 = .ok (.invokestatic 35, 3) := by decide +kernel
theorem dL_key_469 : decode cL_key 469 = .ok (.aload_n 0, 1) := by decide +kernel
theorem dL_key_470 : decode cL_key 470 = .ok (.iload 10, 2) := by decide +kernel
theorem dL_key_472 : decode cL_key 472 = .ok (.iconst 2, 1) := by decide +kernel
theorem dL_key_473 : decode cL_key 473 = .ok (.invokevirtual 47, 3) := by decide +kernel
theorem dL_key_476 : decode cL_key 476 = .ok (.if_icmp .gt 10, 3) := by decide +kernel
theorem dL_key_479 : decode cL_key 479 = .ok (.iconst 1, 1) := by decide +kernel
theorem dL_key_480 : decode cL_key 480 = .ok (.iload 10, 2) := by decide +kernel
theorem dL_key_482 : decode cL_key 482 = .ok (.ishl, 1) := by decide +kernel
theorem dL_key_483 : decode cL_key 483 = .ok (.goto 4, 3) := by decide +kernel
theorem dL_key_486 : decode cL_key 486 = .ok (.iconst 0, 1) := by decide +kernel
theorem dL_key_487 : decode cL_key 487 = .ok (.ior, 1) := by decide +kernel
theorem dL_key_488 : decode cL_key 488 = .ok (.istore 9, 2) := by decide +kernel
theorem dL_key_490 : decode cL_key 490 = .ok (.iinc 10 1, 3) := by decide +kernel
theorem dL_key_493 : decode cL_key 493 = .ok (.goto (-85), 3) := by decide +kernel
theorem dL_key_496 : decode cL_key 496 = .ok (.iload 8, 2) := by decide +kernel
theorem dL_key_498 : decode cL_key 498 = .ok (.ifCond .eq 18, 3) := by decide +kernel
theorem dL_key_501 : decode cL_key 501 = .ok (.aload_n 0, 1) := by decide +kernel
theorem dL_key_502 : decode cL_key 502 = .ok (.iload_n 1, 1) := by decide +kernel
theorem dL_key_503 : decode cL_key 503 = .ok (.iload_n 2, 1) := by decide +kernel
theorem dL_key_504 : decode cL_key 504 = .ok (.invokevirtual 29, 3) := by decide +kernel
theorem dL_key_507 : decode cL_key 507 = .ok (.iload 9, 2) := by decide +kernel
theorem dL_key_509 : decode cL_key 509 = .ok (.if_icmp .ne 7, 3) := by decide +kernel
theorem dL_key_512 : decode cL_key 512 = .ok (.iconst 1, 1) := by decide +kernel
theorem dL_key_513 : decode cL_key 513 = .ok (.goto 4, 3) := by decide +kernel
theorem dL_key_516 : decode cL_key 516 = .ok (.iconst 0, 1) := by decide +kernel
theorem dL_key_517 : decode cL_key 517 = .ok (.ireturn, 1) := by decide +kernel
set_option maxRecDepth 20000 in
theorem ggL_sound_L_records : GoodIn wsL_sound wsL_records := goodIn_ca (goodIn_ca (goodIn_r _ [4, 5, 6, 7, 8, 9, 10, 11, 12, 13, 14, 15, 16, 17, 18, 19, 20, 21, 22, 23, 24, 25, 26, 27, 28, 29, 30, 31, 32, 33, 34, 35, 36, 37, 38, 39, 40, 41, 42, 43, 44, 45, 46, 47, 48, 49, 50, 51, 52, 53, 54, 55, 56, 57, 58, 59, 60, 61, 62, 63, 64, 65, 66, 67, 68, 69, 70, 71, 72, 73, 74, 75, 76, 77, 78, 79, 80, 81, 82, 83, 84, 85, 86, 87, 88, 89, 90, 91, 92, 93, 94, 95, 96, 97, 98, 99, 100, 101, 102, 103, 104, 105, 106, 107, 108, 109, 110, 111, 112, 113, 114, 115, 116, 117, 118, 119, 120, 121, 122, 123, 124, 125, 126, 127, 128, 129, 130, 131, 132, 133, 134, 135, 136, 137, 138, 139, 140, 141, 142, 143, 144, 145, 146, 147, 148, 149, 312, 313, 314, 315, 316, 317, 318, 319, 320, 321, 322, 323, 324, 325, 326, 327, 328, 329, 330, 331, 332, 333, 334, 335] (by decide +kernel) (by decide +kernel)) (goodIn_sub (fun _ h => List.mem_cons_of_mem _ (List.mem_append_left _ (List.mem_append_right _ h))) (by decide +kernel))) (goodIn_sub (fun _ h => List.mem_cons_of_mem _ (List.mem_append_right _ h)) (by decide +kernel))
set_option maxRecDepth 20000 in
theorem gL_sound_L_records : GoodIn wsL_sound (va_wsS RL 50 yL_records wsL_records) := goodIn_app (goodIn_of _ (by decide +kernel)) ggL_sound_L_records
set_option maxRecDepth 20000 in
theorem ggL_sound_X9_about : GoodIn wsL_sound wsX9_about := goodIn_ca (goodIn_r _ [9, 10, 11, 12, 8, 13, 14, 15, 16, 17, 18, 19, 20, 21, 22, 23, 24, 25, 26, 27, 28, 29, 30, 31, 32, 33, 34, 35, 36, 37, 38, 39, 40, 41, 42, 43, 44, 45, 46, 47, 48, 49, 50, 51, 52, 53, 54, 55, 56, 57, 58, 59, 60, 61, 62, 63, 64, 65, 66, 67, 68, 69, 70, 71, 72, 73, 74, 75, 76, 77, 78, 79, 80, 81, 82, 83, 84, 85, 86, 87, 88, 89, 90, 91, 92, 93, 94, 95, 96, 97, 98, 99, 100, 101, 102, 103, 104, 105, 106, 107, 108, 109, 110, 111, 112, 113, 312, 313, 314, 315, 316, 317, 318, 319, 320, 321, 322, 323, 324, 325, 326, 327, 328, 329, 330, 331, 332, 333, 334, 335] (by decide +kernel) (by decide +kernel)) (goodIn_sub (fun _ h => List.mem_cons_of_mem _ (List.mem_append_left _ (List.mem_append_right _ h))) (by decide +kernel))
set_option maxRecDepth 20000 in
theorem gL_sound_X9_about : GoodIn wsL_sound (wsV RL 9 RX9 yX9_about wsX9_about) := goodIn_app (goodIn_of _ (by decide +kernel)) ggL_sound_X9_about
theorem goodIn_co {big a : List Cond} {c : Cond} (hc : GoodIn big [c]) (ha : GoodIn big a) : GoodIn big (c :: a) := fun w h => (List.mem_cons.mp h).elim (fun e => hc w (List.mem_singleton.mpr e)) (ha w)
set_option maxRecDepth 20000 in
theorem gcL_sound_L_key_c : GoodIn wsL_sound [.code yL_key cL_key 12 (some .boolean)] := goodIn_r _ [152] (by decide +kernel) (by decide +kernel)
set_option maxRecDepth 20000 in
theorem gcL_sound_L_key_r1 : GoodIn wsL_sound wsL_key_r1 := goodIn_r _ [153, 154, 155, 8, 156, 10, 157, 158, 159, 160, 161, 162, 163, 22, 164, 24, 119, 120, 121, 122, 123, 11, 12, 13] (by decide +kernel) (by decide +kernel)
set_option maxRecDepth 20000 in
theorem gcL_sound_L_key_r2 : GoodIn wsL_sound wsL_key_r2 := goodIn_r _ [14, 15, 16, 17, 18, 165, 166, 167, 168, 82, 169, 170, 85, 86, 34, 87, 88, 89, 90, 91, 55, 56, 57, 58] (by decide +kernel) (by decide +kernel)
set_option maxRecDepth 20000 in
theorem gcL_sound_L_key_r3 : GoodIn wsL_sound wsL_key_r3 := goodIn_r _ [59, 60, 61, 62, 63, 36, 92, 93, 94, 95, 96, 97, 98, 99, 135, 136, 137, 138, 139, 171, 125, 126, 127, 128] (by decide +kernel) (by decide +kernel)
set_option maxRecDepth 20000 in
theorem gcL_sound_L_key_r4 : GoodIn wsL_sound wsL_key_r4 := goodIn_r _ [129, 172, 173, 174, 175, 68, 69, 70, 71, 72, 176, 177, 178, 179, 180, 181, 182, 183, 184, 185, 186, 187, 188, 189] (by decide +kernel) (by decide +kernel)
set_option maxRecDepth 20000 in
theorem gcL_sound_L_key_r5 : GoodIn wsL_sound wsL_key_r5 := goodIn_r _ [190, 191, 192, 193, 194, 195, 196, 197, 198, 199, 200, 201, 202, 203, 204, 205, 206, 207, 46, 208, 209, 210, 211, 83] (by decide +kernel) (by decide +kernel)
set_option maxRecDepth 20000 in
theorem gcL_sound_L_key_r6 : GoodIn wsL_sound wsL_key_r6 := goodIn_r _ [212, 213, 214, 215, 216, 28, 217, 30, 218, 219, 220, 221, 222, 223, 224, 225, 226, 227, 228, 229, 230, 231, 232, 233] (by decide +kernel) (by decide +kernel)
set_option maxRecDepth 20000 in
theorem gcL_sound_L_key_r7 : GoodIn wsL_sound wsL_key_r7 := goodIn_r _ [234, 235, 236, 237, 238, 239, 240, 241, 242, 243, 244, 245, 41, 246, 247, 248, 249, 250, 251, 252, 253, 254, 255, 256] (by decide +kernel) (by decide +kernel)
set_option maxRecDepth 20000 in
theorem gcL_sound_L_key_r8 : GoodIn wsL_sound wsL_key_r8 := goodIn_r _ [257, 258, 259, 260, 261, 262, 263, 264, 265, 114, 115, 116, 117, 118, 124, 130, 131, 132, 133, 134, 140, 141, 52, 53] (by decide +kernel) (by decide +kernel)
set_option maxRecDepth 20000 in
theorem gcL_sound_L_key_r9 : GoodIn wsL_sound wsL_key_r9 := goodIn_r _ [54, 142, 143, 144, 145, 146, 147, 148, 149, 266, 267, 3, 268, 269, 270, 271, 272, 273, 274, 275, 276, 277, 278, 279] (by decide +kernel) (by decide +kernel)
set_option maxRecDepth 20000 in
theorem gcL_sound_L_key_r10 : GoodIn wsL_sound wsL_key_r10 := goodIn_r _ [280, 281, 282, 283, 284, 285, 5, 6, 7, 9, 19, 20, 21, 23, 25, 26, 27, 29, 31, 32, 33, 35, 37, 38] (by decide +kernel) (by decide +kernel)
set_option maxRecDepth 20000 in
theorem gcL_sound_L_key_r11 : GoodIn wsL_sound wsL_key_r11 := goodIn_r _ [39, 40, 42, 43, 44, 45, 47, 48, 49, 50, 51, 64, 65, 66, 67, 73, 74, 75, 76, 77, 78, 79, 80, 81] (by decide +kernel) (by decide +kernel)
set_option maxRecDepth 20000 in
theorem gcL_sound_L_key_r12 : GoodIn wsL_sound wsL_key_r12 := goodIn_r _ [84, 100, 101, 102, 103, 104, 105, 106, 107, 108, 109, 110, 111, 112, 113, 286, 287, 288, 289, 290, 291, 292, 293, 294] (by decide +kernel) (by decide +kernel)
set_option maxRecDepth 20000 in
theorem gcL_sound_L_key_r13 : GoodIn wsL_sound wsL_key_r13 := goodIn_r _ [295, 296, 297, 298, 299, 300, 301, 302, 303, 304, 305, 306, 307, 308, 309, 310, 311] (by decide +kernel) (by decide +kernel)
set_option maxRecDepth 20000 in
theorem gcL_sound_L_key_wsX90 : GoodIn wsL_sound wsX90 := goodIn_r _ [312, 313, 314, 315, 316, 317] (by decide +kernel) (by decide +kernel)
set_option maxRecDepth 20000 in
theorem gcL_sound_L_key_wsX70 : GoodIn wsL_sound wsX70 := goodIn_r _ [318, 319, 320, 321, 322, 323, 324] (by decide +kernel) (by decide +kernel)
set_option maxRecDepth 20000 in
theorem gcL_sound_L_key_wsX40 : GoodIn wsL_sound wsX40 := goodIn_r _ [330, 331, 332, 333, 334, 335] (by decide +kernel) (by decide +kernel)
set_option maxRecDepth 20000 in
theorem gcL_sound_L_key_wsX00 : GoodIn wsL_sound wsX00 := goodIn_r _ [325, 326, 327, 328, 329] (by decide +kernel) (by decide +kernel)
theorem ggL_sound_L_key : GoodIn wsL_sound wsL_key := goodIn_co gcL_sound_L_key_c (goodIn_app (goodIn_app (goodIn_app (goodIn_app (goodIn_app (goodIn_app (goodIn_app gcL_sound_L_key_r1 (goodIn_app gcL_sound_L_key_r2 (goodIn_app gcL_sound_L_key_r3 (goodIn_app gcL_sound_L_key_r4 (goodIn_app gcL_sound_L_key_r5 (goodIn_app gcL_sound_L_key_r6 (goodIn_app gcL_sound_L_key_r7 (goodIn_app gcL_sound_L_key_r8 (goodIn_app gcL_sound_L_key_r9 (goodIn_app gcL_sound_L_key_r10 (goodIn_app gcL_sound_L_key_r11 (goodIn_app gcL_sound_L_key_r12 gcL_sound_L_key_r13)))))))))))) gcL_sound_L_key_wsX90) gcL_sound_L_key_wsX70) gcL_sound_L_key_wsX40) gcL_sound_L_key_wsX00) (goodIn_sub (fun _ h => List.mem_cons_of_mem _ (List.mem_append_right _ h)) (by decide +kernel))) (goodIn_sub (fun _ h => List.mem_cons_of_mem _ (List.mem_append_left _ (List.mem_append_right _ h))) (by decide +kernel)))
set_option maxRecDepth 20000 in
theorem gL_sound_L_key : GoodIn wsL_sound (va_wsS RL 54 yL_key wsL_key) := goodIn_app (goodIn_of _ (by decide +kernel)) ggL_sound_L_key
set_option maxRecDepth 20000 in
theorem ggL_sound_X9_key : GoodIn wsL_sound wsX9_key := goodIn_ca (goodIn_ca (goodIn_r _ [156, 10, 157, 158, 159, 8, 160, 161, 162, 163, 22, 164, 24, 119, 120, 121, 122, 123, 11, 12, 13, 14, 15, 16, 17, 18, 165, 166, 167, 168, 82, 169, 170, 85, 86, 34, 87, 88, 89, 90, 91, 55, 56, 57, 58, 59, 60, 61, 62, 63, 36, 92, 93, 94, 95, 96, 97, 98, 99, 135, 136, 137, 138, 139, 171, 125, 126, 127, 128, 129, 172, 173, 174, 175, 68, 69, 70, 71, 72, 176, 177, 178, 179, 180, 181, 182, 183, 184, 185, 312, 313, 314, 315, 316, 317, 318, 319, 320, 321, 322, 323, 324, 330, 331, 332, 333, 334, 335] (by decide +kernel) (by decide +kernel)) (goodIn_sub (fun _ h => List.mem_cons_of_mem _ (List.mem_append_right _ h)) (by decide +kernel))) (goodIn_sub (fun _ h => List.mem_cons_of_mem _ (List.mem_append_left _ (List.mem_append_right _ h))) (by decide +kernel))
set_option maxRecDepth 20000 in
theorem gL_sound_X9_key : GoodIn wsL_sound (wsV RL 19 RX9 yX9_key wsX9_key) := goodIn_app (goodIn_of _ (by decide +kernel)) ggL_sound_X9_key
set_option maxRecDepth 20000 in
theorem ggL_sound_X9_device : GoodIn wsL_sound wsX9_device := goodIn_ca (goodIn_ca (goodIn_r _ [289, 10, 290, 229, 230, 28, 231, 30, 119, 120, 8, 121, 122, 123, 11, 12, 13, 14, 15, 16, 17, 18, 291, 292, 293, 294, 222, 228, 295, 296, 297, 298, 226, 299, 300, 301, 302, 227, 303, 304, 305, 306, 77, 307, 308, 309, 22, 310, 24, 207, 208, 209, 210, 211, 83, 212, 166, 167, 168, 82, 169, 162, 163, 164, 213, 136, 137, 34, 138, 139, 60, 61, 62, 63, 36, 311, 219, 220, 221, 223, 224, 98, 225, 232, 180, 181, 182, 183, 184, 185, 312, 313, 314, 315, 316, 317, 318, 319, 320, 321, 322, 323, 324, 325, 326, 327, 328, 329, 330, 331, 332, 333, 334, 335] (by decide +kernel) (by decide +kernel)) (goodIn_sub (fun _ h => List.mem_cons_of_mem _ (List.mem_append_right _ h)) (by decide +kernel))) (goodIn_sub (fun _ h => List.mem_cons_of_mem _ (List.mem_append_left _ (List.mem_append_right _ h))) (by decide +kernel))
set_option maxRecDepth 20000 in
theorem gL_sound_X9_device : GoodIn wsL_sound (wsV RL 47 RX9 yX9_device wsX9_device) := goodIn_app (goodIn_of _ (by decide +kernel)) ggL_sound_X9_device
theorem dL_sound_0 : decode cL_sound 0 = .ok (.aload_n 0, 1) := by decide +kernel
theorem dL_sound_1 : decode cL_sound 1 = .ok (.invokestatic 50, 3) := by decide +kernel
theorem dL_sound_4 : decode cL_sound 4 = .ok (.istore_n 1, 1) := by decide +kernel
theorem dL_sound_5 : decode cL_sound 5 = .ok (.iconst 0, 1) := by decide +kernel
theorem dL_sound_6 : decode cL_sound 6 = .ok (.istore_n 2, 1) := by decide +kernel
theorem dL_sound_7 : decode cL_sound 7 = .ok (.iconst 0, 1) := by decide +kernel
theorem dL_sound_8 : decode cL_sound 8 = .ok (.istore_n 3, 1) := by decide +kernel
theorem dL_sound_9 : decode cL_sound 9 = .ok (.iload_n 3, 1) := by decide +kernel
theorem dL_sound_10 : decode cL_sound 10 = .ok (.bipush 6, 2) := by decide +kernel
theorem dL_sound_12 : decode cL_sound 12 = .ok (.aload_n 0, 1) := by decide +kernel
theorem dL_sound_13 : decode cL_sound 13 = .ok (.iconst 0, 1) := by decide +kernel
theorem dL_sound_14 : decode cL_sound 14 = .ok (.invokevirtual 9, 3) := by decide +kernel
theorem dL_sound_17 : decode cL_sound 17 = .ok (.imul, 1) := by decide +kernel
theorem dL_sound_18 : decode cL_sound 18 = .ok (.if_icmp .ge 50, 3) := by decide +kernel
theorem dL_sound_21 : decode cL_sound 21 = .ok (.iload_n 1, 1) := by decide +kernel
theorem dL_sound_22 : decode cL_sound 22 = .ok (.ifCond .eq 46, 3) := by decide +kernel
theorem dL_sound_25 : decode cL_sound 25 = .ok (.aload_n 0, 1) := by decide +kernel
theorem dL_sound_26 : decode cL_sound 26 = .ok (.iload_n 3, 1) := by decide +kernel
theorem dL_sound_27 : decode cL_sound 27 = .ok (.bipush 6, 2) := by decide +kernel
theorem dL_sound_29 : decode cL_sound 29 = .ok (.idiv, 1) := by decide +kernel
theorem dL_sound_30 : decode cL_sound 30 = .ok (.iload_n 3, 1) := by decide +kernel
theorem dL_sound_31 : decode cL_sound 31 = .ok (.bipush 6, 2) := by decide +kernel
theorem dL_sound_33 : decode cL_sound 33 = .ok (.irem, 1) := by decide +kernel
theorem dL_sound_34 : decode cL_sound 34 = .ok (.invokestatic 54, 3) := by decide +kernel
theorem dL_sound_37 : decode cL_sound 37 = .ok (.istore_n 1, 1) := by decide +kernel
theorem dL_sound_38 : decode cL_sound 38 = .ok (.iload_n 2, 1) := by decide +kernel
theorem dL_sound_39 : decode cL_sound 39 = .ok (.aload_n 0, 1) := by decide +kernel
theorem dL_sound_40 : decode cL_sound 40 = .ok (.iload_n 3, 1) := by decide +kernel
theorem dL_sound_41 : decode cL_sound 41 = .ok (.bipush 6, 2) := by decide +kernel
theorem dL_sound_43 : decode cL_sound 43 = .ok (.idiv, 1) := by decide +kernel
theorem dL_sound_44 : decode cL_sound 44 = .ok (.iload_n 3, 1) := by decide +kernel
theorem dL_sound_45 : decode cL_sound 45 = .ok (.bipush 6, 2) := by decide +kernel
theorem dL_sound_47 : decode cL_sound 47 = .ok (.irem, 1) := by decide +kernel
theorem dL_sound_48 : decode cL_sound 48 = .ok (.iconst 0, 1) := by decide +kernel
theorem dL_sound_49 : decode cL_sound 49 = .ok (.invokevirtual 19, 3) := by decide +kernel
theorem dL_sound_52 : decode cL_sound 52 = .ok (.ifCond .ge 7, 3) := by decide +kernel
theorem dL_sound_55 : decode cL_sound 55 = .ok (.iconst 0, 1) := by decide +kernel
theorem dL_sound_56 : decode cL_sound 56 = .ok (.goto 4, 3) := by decide +kernel
theorem dL_sound_59 : decode cL_sound 59 = .ok (.iconst 1, 1) := by decide +kernel
theorem dL_sound_60 : decode cL_sound 60 = .ok (.iadd, 1) := by decide +kernel
theorem dL_sound_61 : decode cL_sound 61 = .ok (.istore_n 2, 1) := by decide +kernel
theorem dL_sound_62 : decode cL_sound 62 = .ok (.iinc 3 1, 3) := by decide +kernel
theorem dL_sound_65 : decode cL_sound 65 = .ok (.goto (-56), 3) := by decide +kernel
theorem dL_sound_68 : decode cL_sound 68 = .ok (.iconst 0, 1) := by decide +kernel
theorem dL_sound_69 : decode cL_sound 69 = .ok (.istore_n 3, 1) := by decide +kernel
theorem dL_sound_70 : decode cL_sound 70 = .ok (.iconst 0, 1) := by decide +kernel
theorem dL_sound_71 : decode cL_sound 71 = .ok (.istore 4, 2) := by decide +kernel
theorem dL_sound_73 : decode cL_sound 73 = .ok (.iload 4, 2) := by decide +kernel
theorem dL_sound_75 : decode cL_sound 75 = .ok (.aload_n 0, 1) := by decide +kernel
theorem dL_sound_76 : decode cL_sound 76 = .ok (.iconst 1, 1) := by decide +kernel
theorem dL_sound_77 : decode cL_sound 77 = .ok (.invokevirtual 9, 3) := by decide +kernel
theorem dL_sound_80 : decode cL_sound 80 = .ok (.if_icmp .ge 43, 3) := by decide +kernel
theorem dL_sound_83 : decode cL_sound 83 = .ok (.iload_n 3, 1) := by decide +kernel
theorem dL_sound_84 : decode cL_sound 84 = .ok (.aload_n 0, 1) := by decide +kernel
theorem dL_sound_85 : decode cL_sound 85 = .ok (.iload 4, 2) := by decide +kernel
theorem dL_sound_87 : decode cL_sound 87 = .ok (.iconst 3, 1) := by decide +kernel
theorem dL_sound_88 : decode cL_sound 88 = .ok (.invokevirtual 47, 3) := by decide +kernel
theorem dL_sound_91 : decode cL_sound 91 = .ok (.iload 4, 2) := by decide +kernel
theorem dL_sound_93 : decode cL_sound 93 = .ok (.ishl, 1) := by decide +kernel
theorem dL_sound_94 : decode cL_sound 94 = .ok (.ior, 1) := by decide +kernel
theorem dL_sound_95 : decode cL_sound 95 = .ok (.istore_n 3, 1) := by decide +kernel
theorem dL_sound_96 : decode cL_sound 96 = .ok (.iload_n 1, 1) := by decide +kernel
theorem dL_sound_97 : decode cL_sound 97 = .ok (.ifCond .eq 18, 3) := by decide +kernel
theorem dL_sound_100 : decode cL_sound 100 = .ok (.aload_n 0, 1) := by decide +kernel
theorem dL_sound_101 : decode cL_sound 101 = .ok (.iload 4, 2) := by decide +kernel
theorem dL_sound_103 : decode cL_sound 103 = .ok (.iconst 4, 1) := by decide +kernel
theorem dL_sound_104 : decode cL_sound 104 = .ok (.invokevirtual 47, 3) := by decide +kernel
theorem dL_sound_107 : decode cL_sound 107 = .ok (.iload_n 2, 1) := by decide +kernel
theorem dL_sound_108 : decode cL_sound 108 = .ok (.if_icmp .gt 7, 3) := by decide +kernel
theorem dL_sound_111 : decode cL_sound 111 = .ok (.iconst 1, 1) := by decide +kernel
theorem dL_sound_112 : decode cL_sound 112 = .ok (.goto 4, 3) := by decide +kernel
theorem dL_sound_115 : decode cL_sound 115 = .ok (.iconst 0, 1) := by decide +kernel
theorem dL_sound_116 : decode cL_sound 116 = .ok (.istore_n 1, 1) := by decide +kernel
theorem dL_sound_117 : decode cL_sound 117 = .ok (.iinc 4 1, 3) := by decide +kernel
theorem dL_sound_120 : decode cL_sound 120 = .ok (.goto (-47), 3) := by decide +kernel
theorem dL_sound_123 : decode cL_sound 123 = .ok (.iload_n 1, 1) := by decide +kernel
theorem dL_sound_124 : decode cL_sound 124 = .ok (.ifCond .eq 53, 3) := by decide +kernel
theorem dL_sound_127 : decode cL_sound 127 = .ok (.iload_n 3, 1) := by decide +kernel
theorem dL_sound_128 : decode cL_sound 128 = .ok (.aload_n 0, 1) := by decide +kernel
theorem dL_sound_129 : decode cL_sound 129 = .ok (.bipush 7, 2) := by decide +kernel
theorem dL_sound_131 : decode cL_sound 131 = .ok (.invokevirtual 9, 3) := by decide +kernel
theorem dL_sound_134 : decode cL_sound 134 = .ok (.if_icmp .ne 43, 3) := by decide +kernel
theorem dL_sound_137 : decode cL_sound 137 = .ok (.aload_n 0, 1) := by decide +kernel
theorem dL_sound_138 : decode cL_sound 138 = .ok (.bipush 8, 2) := by decide +kernel
theorem dL_sound_140 : decode cL_sound 140 = .ok (.invokevirtual 9, 3) := by decide +kernel
theorem dL_sound_143 : decode cL_sound 143 = .ok (.iload_n 2, 1) := by decide +kernel
theorem dL_sound_144 : decode cL_sound 144 = .ok (.if_icmp .gt 33, 3) := by decide +kernel
theorem dL_sound_147 : decode cL_sound 147 = .ok (.aload_n 0, 1) := by decide +kernel
theorem dL_sound_148 : decode cL_sound 148 = .ok (.bipush 8, 2) := by decide +kernel
theorem dL_sound_150 : decode cL_sound 150 = .ok (.invokevirtual 9, 3) := by decide +kernel
theorem dL_sound_153 : decode cL_sound 153 = .ok (.ifCond .le 7, 3) := by decide +kernel
theorem dL_sound_156 : decode cL_sound 156 = .ok (.iconst 1, 1) := by decide +kernel
theorem dL_sound_157 : decode cL_sound 157 = .ok (.goto 4, 3) := by decide +kernel
theorem dL_sound_160 : decode cL_sound 160 = .ok (.iconst 0, 1) := by decide +kernel
theorem dL_sound_161 : decode cL_sound 161 = .ok (.iload_n 2, 1) := by decide +kernel
theorem dL_sound_162 : decode cL_sound 162 = .ok (.ifCond .le 7, 3) := by decide +kernel
theorem dL_sound_165 : decode cL_sound 165 = .ok (.iconst 1, 1) := by decide +kernel
theorem dL_sound_166 : decode cL_sound 166 = .ok (.goto 4, 3) := by decide +kernel
theorem dL_sound_169 : decode cL_sound 169 = .ok (.iconst 0, 1) := by decide +kernel
theorem dL_sound_170 : decode cL_sound 170 = .ok (.if_icmp .ne 7, 3) := by decide +kernel
theorem dL_sound_173 : decode cL_sound 173 = .ok (.iconst 1, 1) := by decide +kernel
theorem dL_sound_174 : decode cL_sound 174 = .ok (.goto 4, 3) := by decide +kernel
theorem dL_sound_177 : decode cL_sound 177 = .ok (.iconst 0, 1) := by decide +kernel
theorem dL_sound_178 : decode cL_sound 178 = .ok (.ireturn, 1) := by decide +kernel
set_option maxRecDepth 20000 in
theorem ggL_acts_X9_about : GoodIn wsL_acts wsX9_about := goodIn_ca (goodIn_r _ [5, 6, 7, 8, 4, 9, 10, 11, 12, 13, 14, 15, 16, 17, 18, 19, 20, 21, 22, 23, 24, 25, 26, 27, 28, 29, 30, 31, 32, 33, 34, 35, 36, 37, 38, 39, 40, 41, 42, 43, 44, 45, 46, 47, 48, 49, 50, 51, 52, 53, 54, 55, 56, 57, 58, 59, 60, 61, 62, 63, 64, 65, 66, 67, 68, 69, 70, 71, 72, 73, 74, 75, 76, 77, 78, 79, 80, 81, 82, 83, 84, 85, 86, 87, 88, 89, 90, 91, 92, 93, 94, 95, 96, 97, 98, 99, 100, 101, 102, 103, 104, 105, 106, 107, 108, 109, 408, 409, 410, 411, 412, 413, 414, 415, 416, 417, 418, 419, 420, 421, 422, 423, 424, 425, 426, 427, 428, 429, 430, 431] (by decide +kernel) (by decide +kernel)) (goodIn_sub (fun _ h => List.mem_cons_of_mem _ (List.mem_append_left _ (List.mem_append_left _ (List.mem_append_right _ h)))) (by decide +kernel))
set_option maxRecDepth 20000 in
theorem gL_acts_X9_about : GoodIn wsL_acts (wsV RL 9 RX9 yX9_about wsX9_about) := goodIn_app (goodIn_of _ (by decide +kernel)) ggL_acts_X9_about
set_option maxRecDepth 20000 in
theorem ggL_acts_X9_enter : GoodIn wsL_acts wsX9_enter := goodIn_ca (goodIn_ca (goodIn_ca (goodIn_r _ [113, 6, 114, 115, 116, 117, 4, 118, 119, 120, 121, 18, 122, 20, 123, 124, 125, 126, 127, 128, 129, 130, 7, 8, 9, 10, 11, 12, 13, 14, 131, 132, 133, 30, 134, 32, 135, 136, 137, 138, 139, 140, 141, 142, 143, 144, 145, 146, 147, 148, 149, 150, 151, 152, 153, 154, 155, 156, 157, 158, 159, 79, 160, 78, 161, 162, 163, 164, 37, 42, 165, 166, 167, 168, 169, 170, 171, 172, 173, 55, 68, 174, 175, 176, 24, 177, 178, 179, 180, 181, 26, 73, 182, 183, 184, 185, 186, 187, 188, 189, 190, 191, 192, 193, 194, 195, 408, 409, 410, 411, 412, 413, 414, 415, 416, 417, 418, 419, 420, 426, 427, 428, 429, 430, 431, 432, 433, 434, 421, 422, 423, 424, 425] (by decide +kernel) (by decide +kernel)) (goodIn_sub (fun _ h => List.mem_cons_of_mem _ (List.mem_append_left _ (List.mem_append_right _ h))) (by decide +kernel))) (goodIn_sub (fun _ h => List.mem_cons_of_mem _ (List.mem_append_left _ (List.mem_append_left _ (List.mem_append_right _ h)))) (by decide +kernel))) (goodIn_sub (fun _ h => List.mem_cons_of_mem _ (List.mem_append_right _ h)) (by decide +kernel))
set_option maxRecDepth 20000 in
theorem gL_acts_X9_enter : GoodIn wsL_acts (wsV RL 57 RX9 yX9_enter wsX9_enter) := goodIn_app (goodIn_of _ (by decide +kernel)) ggL_acts_X9_enter
set_option maxRecDepth 20000 in
theorem ggL_acts_X9_key : GoodIn wsL_acts wsX9_key := goodIn_ca (goodIn_ca (goodIn_r _ [199, 6, 115, 116, 117, 4, 118, 119, 120, 121, 18, 122, 20, 123, 124, 125, 126, 127, 7, 8, 9, 10, 11, 12, 13, 14, 200, 201, 202, 203, 78, 195, 204, 81, 82, 30, 83, 84, 85, 86, 87, 51, 52, 53, 54, 55, 56, 57, 58, 59, 32, 88, 89, 90, 91, 92, 93, 94, 95, 205, 206, 207, 208, 170, 209, 210, 211, 212, 213, 172, 214, 215, 216, 217, 64, 65, 66, 67, 68, 218, 219, 220, 221, 222, 223, 224, 225, 226, 227, 408, 409, 410, 411, 412, 413, 414, 415, 416, 417, 418, 419, 420, 426, 427, 428, 429, 430, 431] (by decide +kernel) (by decide +kernel)) (goodIn_sub (fun _ h => List.mem_cons_of_mem _ (List.mem_append_left _ (List.mem_append_right _ h))) (by decide +kernel))) (goodIn_sub (fun _ h => List.mem_cons_of_mem _ (List.mem_append_left _ (List.mem_append_left _ (List.mem_append_right _ h)))) (by decide +kernel))
set_option maxRecDepth 20000 in
theorem gL_acts_X9_key : GoodIn wsL_acts (wsV RL 19 RX9 yX9_key wsX9_key) := goodIn_app (goodIn_of _ (by decide +kernel)) ggL_acts_X9_key
set_option maxRecDepth 20000 in
theorem ggL_acts_X9_wouldBe : GoodIn wsL_acts wsX9_wouldBe := goodIn_ca (goodIn_r _ [231, 6, 115, 116, 117, 4, 118, 119, 120, 121, 18, 122, 20, 123, 124, 125, 126, 127, 232, 233, 234, 235, 236, 237, 238, 239, 165, 37, 240, 241, 94, 242, 243, 244, 245, 246, 247, 201, 202, 203, 78, 195, 248, 249, 250, 251, 79, 252, 206, 207, 30, 208, 170, 56, 57, 58, 59, 32, 253, 254, 255, 256, 257, 258, 259, 260, 261, 262, 263, 264, 265, 266, 267, 408, 409, 410, 411, 412, 413, 414, 415, 416, 417, 418, 419, 420, 426, 427, 428, 429, 430, 431] (by decide +kernel) (by decide +kernel)) (goodIn_sub (fun _ h => List.mem_cons_of_mem _ (List.mem_append_left _ (List.mem_append_right _ h))) (by decide +kernel))
set_option maxRecDepth 20000 in
theorem gL_acts_X9_wouldBe : GoodIn wsL_acts (wsV RL 32 RX9 yX9_wouldBe wsX9_wouldBe) := goodIn_app (goodIn_of _ (by decide +kernel)) ggL_acts_X9_wouldBe
set_option maxRecDepth 20000 in
theorem ggL_acts_X9_teach : GoodIn wsL_acts wsX9_teach := goodIn_ca (goodIn_ca (goodIn_ca (goodIn_r _ [271, 6, 114, 115, 116, 117, 4, 118, 119, 120, 121, 18, 122, 20, 123, 124, 125, 126, 127, 10, 11, 12, 13, 14, 272, 273, 274, 275, 79, 243, 244, 245, 246, 247, 201, 202, 203, 78, 195, 276, 132, 133, 30, 134, 32, 135, 136, 137, 138, 139, 140, 141, 142, 143, 144, 145, 146, 147, 148, 149, 150, 151, 152, 153, 154, 155, 156, 157, 158, 159, 160, 161, 162, 163, 164, 37, 42, 165, 166, 167, 168, 169, 170, 171, 172, 173, 55, 68, 174, 175, 176, 24, 177, 178, 179, 180, 181, 26, 73, 277, 278, 279, 280, 240, 241, 94, 242, 253, 254, 255, 256, 257, 258, 281, 263, 264, 252, 206, 207, 208, 56, 57, 58, 59, 282, 266, 267, 186, 187, 188, 189, 190, 191, 192, 193, 194, 408, 409, 410, 411, 412, 413, 414, 415, 416, 417, 418, 419, 420, 426, 427, 428, 429, 430, 431, 432, 433, 434, 421, 422, 423, 424, 425] (by decide +kernel) (by decide +kernel)) (goodIn_sub (fun _ h => List.mem_cons_of_mem _ (List.mem_append_left _ (List.mem_append_right _ h))) (by decide +kernel))) (goodIn_sub (fun _ h => List.mem_cons_of_mem _ (List.mem_append_left _ (List.mem_append_left _ (List.mem_append_right _ h)))) (by decide +kernel))) (goodIn_sub (fun _ h => List.mem_cons_of_mem _ (List.mem_append_right _ h)) (by decide +kernel))
set_option maxRecDepth 20000 in
theorem gL_acts_X9_teach : GoodIn wsL_acts (wsV RL 60 RX9 yX9_teach wsX9_teach) := goodIn_app (goodIn_of _ (by decide +kernel)) ggL_acts_X9_teach
set_option maxRecDepth 20000 in
theorem ggL_acts_X9_record : GoodIn wsL_acts wsX9_record := goodIn_ca (goodIn_ca (goodIn_r _ [286, 6, 287, 57, 58, 30, 59, 32, 123, 124, 4, 125, 126, 127, 7, 8, 9, 10, 11, 12, 13, 14, 288, 52, 53, 54, 55, 56, 210, 211, 212, 213, 172, 289, 290, 291, 292, 173, 205, 206, 207, 208, 170, 293, 65, 66, 67, 68, 294, 48, 49, 50, 51, 295, 296, 297, 18, 298, 78, 79, 299, 300, 301, 302, 408, 409, 410, 411, 412, 413, 414, 415, 416, 417, 418, 419, 420, 426, 427, 428, 429, 430, 431] (by decide +kernel) (by decide +kernel)) (goodIn_sub (fun _ h => List.mem_cons_of_mem _ (List.mem_append_left _ (List.mem_append_right _ h))) (by decide +kernel))) (goodIn_sub (fun _ h => List.mem_cons_of_mem _ (List.mem_append_left _ (List.mem_append_left _ (List.mem_append_right _ h)))) (by decide +kernel))
set_option maxRecDepth 20000 in
theorem gL_acts_X9_record : GoodIn wsL_acts (wsV RL 15 RX9 yX9_record wsX9_record) := goodIn_app (goodIn_of _ (by decide +kernel)) ggL_acts_X9_record
set_option maxRecDepth 20000 in
theorem ggL_acts_X9_erase : GoodIn wsL_acts wsX9_erase := goodIn_ca (goodIn_r _ [306, 114, 6, 115, 116, 117, 4, 118, 119, 120, 121, 18, 122, 20, 123, 124, 125, 126, 127, 140, 141, 142, 143, 144, 145, 146, 147, 148, 149, 150, 151, 152, 153, 154, 155, 156, 157, 158, 159, 79, 160, 78, 161, 162, 163, 164, 37, 42, 165, 166, 167, 168, 30, 169, 170, 171, 172, 173, 55, 68, 32, 174, 175, 176, 24, 177, 178, 179, 180, 181, 26, 73, 307, 308, 309, 310, 248, 249, 250, 251, 247, 201, 202, 203, 195, 252, 206, 207, 208, 56, 57, 58, 59, 191, 192, 193, 194, 408, 409, 410, 411, 412, 413, 414, 415, 416, 417, 418, 419, 420, 432, 433, 434, 426, 427, 428, 429, 430, 431, 421, 422, 423, 424, 425] (by decide +kernel) (by decide +kernel)) (goodIn_sub (fun _ h => List.mem_cons_of_mem _ (List.mem_append_left _ (List.mem_append_right _ h))) (by decide +kernel))
set_option maxRecDepth 20000 in
theorem gL_acts_X9_erase : GoodIn wsL_acts (wsV RL 63 RX9 yX9_erase wsX9_erase) := goodIn_app (goodIn_of _ (by decide +kernel)) ggL_acts_X9_erase
set_option maxRecDepth 20000 in
theorem ggL_acts_X9_accepted : GoodIn wsL_acts wsX9_accepted := goodIn_ca (goodIn_r _ [314, 6, 115, 116, 117, 4, 118, 119, 120, 121, 18, 122, 20, 123, 124, 125, 126, 127, 315, 316, 317, 318, 160, 42, 248, 249, 250, 251, 79, 247, 201, 202, 203, 78, 195, 252, 206, 207, 30, 208, 170, 56, 57, 58, 59, 32, 319, 320, 321, 24, 322, 26, 323, 324, 325, 326, 178, 327, 241, 94, 242, 180, 181, 328, 329, 330, 331, 332, 222, 223, 224, 225, 226, 227, 408, 409, 410, 411, 412, 413, 414, 415, 416, 417, 418, 419, 420, 426, 427, 428, 429, 430, 431, 421, 422, 423, 424, 425] (by decide +kernel) (by decide +kernel)) (goodIn_sub (fun _ h => List.mem_cons_of_mem _ (List.mem_append_left _ (List.mem_append_right _ h))) (by decide +kernel))
set_option maxRecDepth 20000 in
theorem gL_acts_X9_accepted : GoodIn wsL_acts (wsV RL 29 RX9 yX9_accepted wsX9_accepted) := goodIn_app (goodIn_of _ (by decide +kernel)) ggL_acts_X9_accepted
set_option maxRecDepth 20000 in
theorem ggL_acts_X9_press : GoodIn wsL_acts wsX9_press := goodIn_ca (goodIn_ca (goodIn_r _ [336, 6, 114, 115, 116, 117, 4, 118, 119, 120, 121, 18, 122, 20, 123, 124, 125, 126, 127, 337, 244, 245, 246, 247, 201, 202, 203, 78, 195, 135, 136, 137, 138, 139, 140, 141, 142, 143, 144, 145, 146, 147, 148, 149, 150, 151, 152, 153, 154, 155, 156, 157, 158, 159, 79, 160, 161, 162, 163, 164, 37, 42, 165, 166, 167, 168, 30, 169, 170, 171, 172, 173, 55, 68, 32, 174, 175, 176, 24, 177, 178, 179, 180, 181, 26, 73, 338, 339, 340, 341, 248, 249, 250, 251, 252, 206, 207, 208, 56, 57, 58, 59, 319, 320, 321, 322, 323, 324, 325, 326, 327, 241, 94, 242, 328, 329, 330, 331, 332, 222, 223, 224, 225, 226, 227, 342, 343, 344, 345, 408, 409, 410, 411, 412, 413, 414, 415, 416, 417, 418, 419, 420, 432, 433, 434, 426, 427, 428, 429, 430, 431, 421, 422, 423, 424, 425] (by decide +kernel) (by decide +kernel)) (goodIn_sub (fun _ h => List.mem_cons_of_mem _ (List.mem_append_left _ (List.mem_append_right _ h))) (by decide +kernel))) (goodIn_sub (fun _ h => List.mem_cons_of_mem _ (List.mem_append_right _ h)) (by decide +kernel))
set_option maxRecDepth 20000 in
theorem gL_acts_X9_press : GoodIn wsL_acts (wsV RL 66 RX9 yX9_press wsX9_press) := goodIn_app (goodIn_of _ (by decide +kernel)) ggL_acts_X9_press
set_option maxRecDepth 20000 in
theorem ggL_acts_X9_addDevice : GoodIn wsL_acts wsX9_addDevice := goodIn_ca (goodIn_ca (goodIn_ca (goodIn_r _ [349, 6, 114, 232, 233, 234, 18, 235, 20, 123, 124, 4, 125, 126, 127, 128, 129, 130, 7, 8, 9, 350, 351, 352, 10, 11, 12, 13, 14, 353, 354, 355, 24, 356, 26, 135, 136, 137, 138, 139, 140, 141, 142, 143, 144, 145, 146, 147, 148, 149, 150, 151, 152, 153, 154, 155, 156, 157, 158, 159, 79, 160, 78, 161, 162, 163, 164, 37, 42, 165, 166, 167, 168, 30, 169, 170, 171, 172, 173, 55, 68, 32, 174, 175, 176, 177, 178, 179, 180, 181, 73, 357, 358, 359, 360, 361, 408, 409, 410, 411, 412, 413, 414, 415, 416, 417, 418, 419, 420, 421, 422, 423, 424, 425, 432, 433, 434, 426, 427, 428, 429, 430, 431] (by decide +kernel) (by decide +kernel)) (goodIn_sub (fun _ h => List.mem_cons_of_mem _ (List.mem_append_left _ (List.mem_append_right _ h))) (by decide +kernel))) (goodIn_sub (fun _ h => List.mem_cons_of_mem _ (List.mem_append_left _ (List.mem_append_left _ (List.mem_append_right _ h)))) (by decide +kernel))) (goodIn_sub (fun _ h => List.mem_cons_of_mem _ (List.mem_append_right _ h)) (by decide +kernel))
set_option maxRecDepth 20000 in
theorem gL_acts_X9_addDevice : GoodIn wsL_acts (wsV RL 69 RX9 yX9_addDevice wsX9_addDevice) := goodIn_app (goodIn_of _ (by decide +kernel)) ggL_acts_X9_addDevice
set_option maxRecDepth 20000 in
theorem ggL_acts_X9_setTolerance : GoodIn wsL_acts wsX9_setTolerance := goodIn_ca (goodIn_ca (goodIn_r _ [365, 6, 114, 366, 329, 330, 24, 331, 26, 123, 124, 4, 125, 126, 127, 350, 351, 352, 7, 8, 9, 10, 11, 12, 13, 14, 140, 141, 142, 143, 144, 145, 146, 147, 148, 149, 150, 151, 152, 153, 154, 155, 156, 157, 158, 18, 159, 79, 160, 78, 161, 162, 163, 164, 20, 37, 42, 165, 166, 167, 168, 30, 169, 170, 171, 172, 173, 55, 68, 32, 174, 175, 176, 177, 178, 179, 180, 181, 73, 367, 368, 369, 370, 371, 372, 373, 374, 328, 408, 409, 410, 411, 412, 413, 414, 415, 416, 417, 418, 419, 420, 421, 422, 423, 424, 425, 432, 433, 434, 426, 427, 428, 429, 430, 431] (by decide +kernel) (by decide +kernel)) (goodIn_sub (fun _ h => List.mem_cons_of_mem _ (List.mem_append_left _ (List.mem_append_right _ h))) (by decide +kernel))) (goodIn_sub (fun _ h => List.mem_cons_of_mem _ (List.mem_append_left _ (List.mem_append_left _ (List.mem_append_right _ h)))) (by decide +kernel))
set_option maxRecDepth 20000 in
theorem gL_acts_X9_setTolerance : GoodIn wsL_acts (wsV RL 72 RX9 yX9_setTolerance wsX9_setTolerance) := goodIn_app (goodIn_of _ (by decide +kernel)) ggL_acts_X9_setTolerance
set_option maxRecDepth 20000 in
theorem ggL_acts_X9_device : GoodIn wsL_acts wsX9_device := goodIn_ca (goodIn_ca (goodIn_r _ [378, 6, 366, 329, 330, 24, 331, 26, 123, 124, 4, 125, 126, 127, 7, 8, 9, 10, 11, 12, 13, 14, 379, 380, 381, 382, 178, 328, 383, 384, 385, 386, 180, 387, 372, 373, 374, 181, 388, 389, 390, 391, 73, 392, 393, 394, 18, 395, 20, 160, 248, 249, 250, 251, 79, 247, 201, 202, 203, 78, 195, 120, 121, 122, 252, 206, 207, 30, 208, 170, 56, 57, 58, 59, 32, 396, 324, 325, 326, 327, 241, 94, 242, 332, 222, 223, 224, 225, 226, 227, 408, 409, 410, 411, 412, 413, 414, 415, 416, 417, 418, 419, 420, 421, 422, 423, 424, 425, 426, 427, 428, 429, 430, 431] (by decide +kernel) (by decide +kernel)) (goodIn_sub (fun _ h => List.mem_cons_of_mem _ (List.mem_append_left _ (List.mem_append_right _ h))) (by decide +kernel))) (goodIn_sub (fun _ h => List.mem_cons_of_mem _ (List.mem_append_left _ (List.mem_append_left _ (List.mem_append_right _ h)))) (by decide +kernel))
set_option maxRecDepth 20000 in
theorem gL_acts_X9_device : GoodIn wsL_acts (wsV RL 47 RX9 yX9_device wsX9_device) := goodIn_app (goodIn_of _ (by decide +kernel)) ggL_acts_X9_device
set_option maxRecDepth 20000 in
theorem ggL_acts_X9_set : GoodIn wsL_acts wsX9_set := goodIn_ca (goodIn_r _ [400, 114, 6, 401, 402, 4, 403, 7, 8, 9, 10, 11, 12, 13, 14, 140, 141, 142, 143, 144, 145, 146, 147, 148, 149, 150, 151, 152, 153, 154, 155, 156, 157, 158, 18, 159, 79, 160, 78, 161, 162, 163, 164, 20, 37, 42, 165, 166, 167, 168, 30, 169, 170, 171, 172, 173, 55, 68, 32, 174, 175, 176, 24, 177, 178, 179, 180, 181, 26, 73, 404, 405, 406, 407, 408, 409, 410, 411, 412, 413, 432, 433, 434, 414, 415, 416, 417, 418, 419, 420, 426, 427, 428, 429, 430, 431, 421, 422, 423, 424, 425] (by decide +kernel) (by decide +kernel)) (goodIn_sub (fun _ h => List.mem_cons_of_mem _ (List.mem_append_left _ (List.mem_append_left _ (List.mem_append_right _ h)))) (by decide +kernel))
set_option maxRecDepth 20000 in
theorem gL_acts_X9_set : GoodIn wsL_acts (wsV RL 75 RX9 yX9_set wsX9_set) := goodIn_app (goodIn_of _ (by decide +kernel)) ggL_acts_X9_set
theorem dL_acts_0 : decode cL_acts 0 = .ok (.iload_n 1, 1) := by decide +kernel
theorem dL_acts_1 : decode cL_acts 1 = .ok (.iconst 3, 1) := by decide +kernel
theorem dL_acts_2 : decode cL_acts 2 = .ok (.ishr, 1) := by decide +kernel
theorem dL_acts_3 : decode cL_acts 3 = .ok (.istore_n 2, 1) := by decide +kernel
theorem dL_acts_4 : decode cL_acts 4 = .ok (.iload_n 2, 1) := by decide +kernel
theorem dL_acts_5 : decode cL_acts 5 = .ok (.aload_n 0, 1) := by decide +kernel
theorem dL_acts_6 : decode cL_acts 6 = .ok (.iconst 0, 1) := by decide +kernel
theorem dL_acts_7 : decode cL_acts 7 = .ok (.invokevirtual 9, 3) := by decide +kernel
theorem dL_acts_10 : decode cL_acts 10 = .ok (.irem, 1) := by decide +kernel
theorem dL_acts_11 : decode cL_acts 11 = .ok (.istore_n 3, 1) := by decide +kernel
theorem dL_acts_12 : decode cL_acts 12 = .ok (.iload_n 2, 1) := by decide +kernel
theorem dL_acts_13 : decode cL_acts 13 = .ok (.iconst 4, 1) := by decide +kernel
theorem dL_acts_14 : decode cL_acts 14 = .ok (.ishr, 1) := by decide +kernel
theorem dL_acts_15 : decode cL_acts 15 = .ok (.bipush 6, 2) := by decide +kernel
theorem dL_acts_17 : decode cL_acts 17 = .ok (.irem, 1) := by decide +kernel
theorem dL_acts_18 : decode cL_acts 18 = .ok (.istore 4, 2) := by decide +kernel
theorem dL_acts_20 : decode cL_acts 20 = .ok (.iload_n 2, 1) := by decide +kernel
theorem dL_acts_21 : decode cL_acts 21 = .ok (.bipush 7, 2) := by decide +kernel
theorem dL_acts_23 : decode cL_acts 23 = .ok (.ishr, 1) := by decide +kernel
theorem dL_acts_24 : decode cL_acts 24 = .ok (.aload_n 0, 1) := by decide +kernel
theorem dL_acts_25 : decode cL_acts 25 = .ok (.iconst 0, 1) := by decide +kernel
theorem dL_acts_26 : decode cL_acts 26 = .ok (.invokevirtual 9, 3) := by decide +kernel
theorem dL_acts_29 : decode cL_acts 29 = .ok (.irem, 1) := by decide +kernel
theorem dL_acts_30 : decode cL_acts 30 = .ok (.istore 5, 2) := by decide +kernel
theorem dL_acts_32 : decode cL_acts 32 = .ok (.iload_n 2, 1) := by decide +kernel
theorem dL_acts_33 : decode cL_acts 33 = .ok (.bipush 11, 2) := by decide +kernel
theorem dL_acts_35 : decode cL_acts 35 = .ok (.ishr, 1) := by decide +kernel
theorem dL_acts_36 : decode cL_acts 36 = .ok (.bipush 6, 2) := by decide +kernel
theorem dL_acts_38 : decode cL_acts 38 = .ok (.irem, 1) := by decide +kernel
theorem dL_acts_39 : decode cL_acts 39 = .ok (.istore 6, 2) := by decide +kernel
theorem dL_acts_41 : decode cL_acts 41 = .ok (.aload_n 0, 1) := by decide +kernel
theorem dL_acts_42 : decode cL_acts 42 = .ok (.iconst 2, 1) := by decide +kernel
theorem dL_acts_43 : decode cL_acts 43 = .ok (.invokevirtual 9, 3) := by decide +kernel
theorem dL_acts_46 : decode cL_acts 46 = .ok (.istore 7, 2) := by decide +kernel
theorem dL_acts_48 : decode cL_acts 48 = .ok (.iload 7, 2) := by decide +kernel
theorem dL_acts_50 : decode cL_acts 50 = .ok (.bipush 40, 2) := by decide +kernel
theorem dL_acts_52 : decode cL_acts 52 = .ok (.if_icmp .ne 7, 3) := by decide +kernel
theorem dL_acts_55 : decode cL_acts 55 = .ok (.iconst 1, 1) := by decide +kernel
theorem dL_acts_56 : decode cL_acts 56 = .ok (.goto 4, 3) := by decide +kernel
theorem dL_acts_59 : decode cL_acts 59 = .ok (.iconst 0, 1) := by decide +kernel
theorem dL_acts_60 : decode cL_acts 60 = .ok (.istore 8, 2) := by decide +kernel
theorem dL_acts_62 : decode cL_acts 62 = .ok (.iload_n 1, 1) := by decide +kernel
theorem dL_acts_63 : decode cL_acts 63 = .ok (.bipush 7, 2) := by decide +kernel
theorem dL_acts_65 : decode cL_acts 65 = .ok (.iand, 1) := by decide +kernel
theorem dL_acts_66 : decode cL_acts 66 = .ok (.tableswitch 431 0 6 #[42, 97, 97, 97, 203, 253, 313], 42) := by decide +kernel
theorem dL_acts_108 : decode cL_acts 108 = .ok (.iload 8, 2) := by decide +kernel
theorem dL_acts_110 : decode cL_acts 110 = .ok (.ifCond .ne 47, 3) := by decide +kernel
theorem dL_acts_113 : decode cL_acts 113 = .ok (.aload_n 0, 1) := by decide +kernel
theorem dL_acts_114 : decode cL_acts 114 = .ok (.iload_n 3, 1) := by decide +kernel
theorem dL_acts_115 : decode cL_acts 115 = .ok (.iload 4, 2) := by decide +kernel
theorem dL_acts_117 : decode cL_acts 117 = .ok (.iload_n 2, 1) := by decide +kernel
theorem dL_acts_118 : decode cL_acts 118 = .ok (.bipush 7, 2) := by decide +kernel
theorem dL_acts_120 : decode cL_acts 120 = .ok (.ishr, 1) := by decide +kernel
theorem dL_acts_121 : decode cL_acts 121 = .ok (.sipush 4096, 3) := by decide +kernel
theorem dL_acts_124 : decode cL_acts 124 = .ok (.irem, 1) := by decide +kernel
theorem dL_acts_125 : decode cL_acts 125 = .ok (.invokevirtual 57, 3) := by decide +kernel
theorem dL_acts_128 : decode cL_acts 128 = .ok (.iload 7, 2) := by decide +kernel
theorem dL_acts_130 : decode cL_acts 130 = .ok (.if_icmp .ne 31, 3) := by decide +kernel
theorem dL_acts_133 : decode cL_acts 133 = .ok (.aload_n 0, 1) := by decide +kernel
theorem dL_acts_134 : decode cL_acts 134 = .ok (.iload_n 3, 1) := by decide +kernel
theorem dL_acts_135 : decode cL_acts 135 = .ok (.iload 4, 2) := by decide +kernel
theorem dL_acts_137 : decode cL_acts 137 = .ok (.iconst 1, 1) := by decide +kernel
theorem dL_acts_138 : decode cL_acts 138 = .ok (.invokevirtual 19, 3) := by decide +kernel
theorem dL_acts_141 : decode cL_acts 141 = .ok (.iload 7, 2) := by decide +kernel
theorem dL_acts_143 : decode cL_acts 143 = .ok (.if_icmp .ne 18, 3) := by decide +kernel
theorem dL_acts_146 : decode cL_acts 146 = .ok (.aload_n 0, 1) := by decide +kernel
theorem dL_acts_147 : decode cL_acts 147 = .ok (.iload_n 3, 1) := by decide +kernel
theorem dL_acts_148 : decode cL_acts 148 = .ok (.iload 4, 2) := by decide +kernel
theorem dL_acts_150 : decode cL_acts 150 = .ok (.iconst 2, 1) := by decide +kernel
theorem dL_acts_151 : decode cL_acts 151 = .ok (.invokevirtual 19, 3) := by decide +kernel
theorem dL_acts_154 : decode cL_acts 154 = .ok (.ifCond .ne 7, 3) := by decide +kernel
theorem dL_acts_157 : decode cL_acts 157 = .ok (.iconst 1, 1) := by decide +kernel
theorem dL_acts_158 : decode cL_acts 158 = .ok (.goto 4, 3) := by decide +kernel
theorem dL_acts_161 : decode cL_acts 161 = .ok (.iconst 0, 1) := by decide +kernel
theorem dL_acts_162 : decode cL_acts 162 = .ok (.ireturn, 1) := by decide +kernel
theorem dL_acts_163 : decode cL_acts 163 = .ok (.aload_n 0, 1) := by decide +kernel
theorem dL_acts_164 : decode cL_acts 164 = .ok (.iload_n 3, 1) := by decide +kernel
theorem dL_acts_165 : decode cL_acts 165 = .ok (.iload 4, 2) := by decide +kernel
theorem dL_acts_167 : decode cL_acts 167 = .ok (.iload 5, 2) := by decide +kernel
theorem dL_acts_169 : decode cL_acts 169 = .ok (.invokevirtual 32, 3) := by decide +kernel
theorem dL_acts_172 : decode cL_acts 172 = .ok (.istore 9, 2) := by decide +kernel
theorem dL_acts_174 : decode cL_acts 174 = .ok (.iload 8, 2) := by decide +kernel
theorem dL_acts_176 : decode cL_acts 176 = .ok (.ifCond .ne 21, 3) := by decide +kernel
theorem dL_acts_179 : decode cL_acts 179 = .ok (.iload 9, 2) := by decide +kernel
theorem dL_acts_181 : decode cL_acts 181 = .ok (.ifCond .lt 16, 3) := by decide +kernel
theorem dL_acts_184 : decode cL_acts 184 = .ok (.iload_n 3, 1) := by decide +kernel
theorem dL_acts_185 : decode cL_acts 185 = .ok (.iload 5, 2) := by decide +kernel
theorem dL_acts_187 : decode cL_acts 187 = .ok (.if_icmp .ne 12, 3) := by decide +kernel
theorem dL_acts_190 : decode cL_acts 190 = .ok (.iload 4, 2) := by decide +kernel
theorem dL_acts_192 : decode cL_acts 192 = .ok (.iload 6, 2) := by decide +kernel
theorem dL_acts_194 : decode cL_acts 194 = .ok (.if_icmp .ne 5, 3) := by decide +kernel
theorem dL_acts_197 : decode cL_acts 197 = .ok (.iconst 1, 1) := by decide +kernel
theorem dL_acts_198 : decode cL_acts 198 = .ok (.ireturn, 1) := by decide +kernel
theorem dL_acts_199 : decode cL_acts 199 = .ok (.aload_n 0, 1) := by decide +kernel
theorem dL_acts_200 : decode cL_acts 200 = .ok (.iload_n 3, 1) := by decide +kernel
theorem dL_acts_201 : decode cL_acts 201 = .ok (.iload 4, 2) := by decide +kernel
theorem dL_acts_203 : decode cL_acts 203 = .ok (.iconst 1, 1) := by decide +kernel
theorem dL_acts_204 : decode cL_acts 204 = .ok (.invokevirtual 19, 3) := by decide +kernel
theorem dL_acts_207 : decode cL_acts 207 = .ok (.istore 10, 2) := by decide +kernel
theorem dL_acts_209 : decode cL_acts 209 = .ok (.aload_n 0, 1) := by decide +kernel
theorem dL_acts_210 : decode cL_acts 210 = .ok (.iload_n 3, 1) := by decide +kernel
theorem dL_acts_211 : decode cL_acts 211 = .ok (.iload 4, 2) := by decide +kernel
theorem dL_acts_213 : decode cL_acts 213 = .ok (.iload 5, 2) := by decide +kernel
theorem dL_acts_215 : decode cL_acts 215 = .ok (.iload 6, 2) := by decide +kernel
theorem dL_acts_217 : decode cL_acts 217 = .ok (.invokevirtual 60, 3) := by decide +kernel
theorem dL_acts_220 : decode cL_acts 220 = .ok (.iload 9, 2) := by decide +kernel
theorem dL_acts_222 : decode cL_acts 222 = .ok (.if_icmp .ne 45, 3) := by decide +kernel
theorem dL_acts_225 : decode cL_acts 225 = .ok (.aload_n 0, 1) := by decide +kernel
theorem dL_acts_226 : decode cL_acts 226 = .ok (.iload 5, 2) := by decide +kernel
theorem dL_acts_228 : decode cL_acts 228 = .ok (.iload 6, 2) := by decide +kernel
theorem dL_acts_230 : decode cL_acts 230 = .ok (.iconst 0, 1) := by decide +kernel
theorem dL_acts_231 : decode cL_acts 231 = .ok (.invokevirtual 19, 3) := by decide +kernel
theorem dL_acts_234 : decode cL_acts 234 = .ok (.iload 9, 2) := by decide +kernel
theorem dL_acts_236 : decode cL_acts 236 = .ok (.if_icmp .ne 31, 3) := by decide +kernel
theorem dL_acts_239 : decode cL_acts 239 = .ok (.aload_n 0, 1) := by decide +kernel
theorem dL_acts_240 : decode cL_acts 240 = .ok (.iload 7, 2) := by decide +kernel
theorem dL_acts_242 : decode cL_acts 242 = .ok (.iconst 0, 1) := by decide +kernel
theorem dL_acts_243 : decode cL_acts 243 = .ok (.invokevirtual 15, 3) := by decide +kernel
theorem dL_acts_246 : decode cL_acts 246 = .ok (.iload 10, 2) := by decide +kernel
theorem dL_acts_248 : decode cL_acts 248 = .ok (.if_icmp .ne 19, 3) := by decide +kernel
theorem dL_acts_251 : decode cL_acts 251 = .ok (.aload_n 0, 1) := by decide +kernel
theorem dL_acts_252 : decode cL_acts 252 = .ok (.iconst 2, 1) := by decide +kernel
theorem dL_acts_253 : decode cL_acts 253 = .ok (.invokevirtual 9, 3) := by decide +kernel
theorem dL_acts_256 : decode cL_acts 256 = .ok (.iload 7, 2) := by decide +kernel
theorem dL_acts_258 : decode cL_acts 258 = .ok (.iconst 1, 1) := by decide +kernel
theorem dL_acts_259 : decode cL_acts 259 = .ok (.iadd, 1) := by decide +kernel
theorem dL_acts_260 : decode cL_acts 260 = .ok (.if_icmp .ne 7, 3) := by decide +kernel
theorem dL_acts_263 : decode cL_acts 263 = .ok (.iconst 1, 1) := by decide +kernel
theorem dL_acts_264 : decode cL_acts 264 = .ok (.goto 4, 3) := by decide +kernel
theorem dL_acts_267 : decode cL_acts 267 = .ok (.iconst 0, 1) := by decide +kernel
theorem dL_acts_268 : decode cL_acts 268 = .ok (.ireturn, 1) := by decide +kernel
theorem dL_acts_269 : decode cL_acts 269 = .ok (.aload_n 0, 1) := by decide +kernel
theorem dL_acts_270 : decode cL_acts 270 = .ok (.iload_n 3, 1) := by decide +kernel
theorem dL_acts_271 : decode cL_acts 271 = .ok (.iload 4, 2) := by decide +kernel
theorem dL_acts_273 : decode cL_acts 273 = .ok (.iconst 0, 1) := by decide +kernel
theorem dL_acts_274 : decode cL_acts 274 = .ok (.invokevirtual 19, 3) := by decide +kernel
theorem dL_acts_277 : decode cL_acts 277 = .ok (.istore 11, 2) := by decide +kernel
theorem dL_acts_279 : decode cL_acts 279 = .ok (.iload_n 2, 1) := by decide +kernel
theorem dL_acts_280 : decode cL_acts 280 = .ok (.bipush 9, 2) := by decide +kernel
theorem dL_acts_282 : decode cL_acts 282 = .ok (.ishr, 1) := by decide +kernel
theorem dL_acts_283 : decode cL_acts 283 = .ok (.iconst 3, 1) := by decide +kernel
theorem dL_acts_284 : decode cL_acts 284 = .ok (.iand, 1) := by decide +kernel
theorem dL_acts_285 : decode cL_acts 285 = .ok (.ifCond .gt 28, 3) := by decide +kernel
theorem dL_acts_288 : decode cL_acts 288 = .ok (.aload_n 0, 1) := by decide +kernel
theorem dL_acts_289 : decode cL_acts 289 = .ok (.iload_n 3, 1) := by decide +kernel
theorem dL_acts_290 : decode cL_acts 290 = .ok (.iload 4, 2) := by decide +kernel
theorem dL_acts_292 : decode cL_acts 292 = .ok (.invokevirtual 63, 3) := by decide +kernel
theorem dL_acts_295 : decode cL_acts 295 = .ok (.iload 11, 2) := by decide +kernel
theorem dL_acts_297 : decode cL_acts 297 = .ok (.if_icmp .ne 20, 3) := by decide +kernel
theorem dL_acts_300 : decode cL_acts 300 = .ok (.aload_n 0, 1) := by decide +kernel
theorem dL_acts_301 : decode cL_acts 301 = .ok (.iload_n 3, 1) := by decide +kernel
theorem dL_acts_302 : decode cL_acts 302 = .ok (.iload 4, 2) := by decide +kernel
theorem dL_acts_304 : decode cL_acts 304 = .ok (.iconst 0, 1) := by decide +kernel
theorem dL_acts_305 : decode cL_acts 305 = .ok (.invokevirtual 19, 3) := by decide +kernel
theorem dL_acts_308 : decode cL_acts 308 = .ok (.bipush (-9), 2) := by decide +kernel
theorem dL_acts_310 : decode cL_acts 310 = .ok (.if_icmp .ne 7, 3) := by decide +kernel
theorem dL_acts_313 : decode cL_acts 313 = .ok (.iconst 1, 1) := by decide +kernel
theorem dL_acts_314 : decode cL_acts 314 = .ok (.goto 4, 3) := by decide +kernel
theorem dL_acts_317 : decode cL_acts 317 = .ok (.iconst 0, 1) := by decide +kernel
theorem dL_acts_318 : decode cL_acts 318 = .ok (.ireturn, 1) := by decide +kernel
theorem dL_acts_319 : decode cL_acts 319 = .ok (.aload_n 0, 1) := by decide +kernel
theorem dL_acts_320 : decode cL_acts 320 = .ok (.bipush 7, 2) := by decide +kernel
theorem dL_acts_322 : decode cL_acts 322 = .ok (.invokevirtual 9, 3) := by decide +kernel
theorem dL_acts_325 : decode cL_acts 325 = .ok (.istore 12, 2) := by decide +kernel
theorem dL_acts_327 : decode cL_acts 327 = .ok (.aload_n 0, 1) := by decide +kernel
theorem dL_acts_328 : decode cL_acts 328 = .ok (.iload_n 3, 1) := by decide +kernel
theorem dL_acts_329 : decode cL_acts 329 = .ok (.iload 4, 2) := by decide +kernel
theorem dL_acts_331 : decode cL_acts 331 = .ok (.invokevirtual 29, 3) := by decide +kernel
theorem dL_acts_334 : decode cL_acts 334 = .ok (.istore 13, 2) := by decide +kernel
theorem dL_acts_336 : decode cL_acts 336 = .ok (.aload_n 0, 1) := by decide +kernel
theorem dL_acts_337 : decode cL_acts 337 = .ok (.iload_n 3, 1) := by decide +kernel
theorem dL_acts_338 : decode cL_acts 338 = .ok (.iload 4, 2) := by decide +kernel
theorem dL_acts_340 : decode cL_acts 340 = .ok (.iconst 0, 1) := by decide +kernel
theorem dL_acts_341 : decode cL_acts 341 = .ok (.invokevirtual 19, 3) := by decide +kernel
theorem dL_acts_344 : decode cL_acts 344 = .ok (.ifCond .lt 29, 3) := by decide +kernel
theorem dL_acts_347 : decode cL_acts 347 = .ok (.aload_n 0, 1) := by decide +kernel
theorem dL_acts_348 : decode cL_acts 348 = .ok (.iload_n 3, 1) := by decide +kernel
theorem dL_acts_349 : decode cL_acts 349 = .ok (.iload 4, 2) := by decide +kernel
theorem dL_acts_351 : decode cL_acts 351 = .ok (.invokevirtual 66, 3) := by decide +kernel
theorem dL_acts_354 : decode cL_acts 354 = .ok (.iload 13, 2) := by decide +kernel
theorem dL_acts_356 : decode cL_acts 356 = .ok (.if_icmp .ne 21, 3) := by decide +kernel
theorem dL_acts_359 : decode cL_acts 359 = .ok (.aload_n 0, 1) := by decide +kernel
theorem dL_acts_360 : decode cL_acts 360 = .ok (.bipush 7, 2) := by decide +kernel
theorem dL_acts_362 : decode cL_acts 362 = .ok (.invokevirtual 9, 3) := by decide +kernel
theorem dL_acts_365 : decode cL_acts 365 = .ok (.iload 12, 2) := by decide +kernel
theorem dL_acts_367 : decode cL_acts 367 = .ok (.iload 13, 2) := by decide +kernel
theorem dL_acts_369 : decode cL_acts 369 = .ok (.ixor, 1) := by decide +kernel
theorem dL_acts_370 : decode cL_acts 370 = .ok (.if_icmp .ne 7, 3) := by decide +kernel
theorem dL_acts_373 : decode cL_acts 373 = .ok (.iconst 1, 1) := by decide +kernel
theorem dL_acts_374 : decode cL_acts 374 = .ok (.goto 4, 3) := by decide +kernel
theorem dL_acts_377 : decode cL_acts 377 = .ok (.iconst 0, 1) := by decide +kernel
theorem dL_acts_378 : decode cL_acts 378 = .ok (.ireturn, 1) := by decide +kernel
theorem dL_acts_379 : decode cL_acts 379 = .ok (.aload_n 0, 1) := by decide +kernel
theorem dL_acts_380 : decode cL_acts 380 = .ok (.iconst 1, 1) := by decide +kernel
theorem dL_acts_381 : decode cL_acts 381 = .ok (.invokevirtual 9, 3) := by decide +kernel
theorem dL_acts_384 : decode cL_acts 384 = .ok (.ifCond .ne 7, 3) := by decide +kernel
theorem dL_acts_387 : decode cL_acts 387 = .ok (.iconst (-1), 1) := by decide +kernel
theorem dL_acts_388 : decode cL_acts 388 = .ok (.goto 10, 3) := by decide +kernel
theorem dL_acts_391 : decode cL_acts 391 = .ok (.iload_n 2, 1) := by decide +kernel
theorem dL_acts_392 : decode cL_acts 392 = .ok (.aload_n 0, 1) := by decide +kernel
theorem dL_acts_393 : decode cL_acts 393 = .ok (.iconst 1, 1) := by decide +kernel
theorem dL_acts_394 : decode cL_acts 394 = .ok (.invokevirtual 9, 3) := by decide +kernel
theorem dL_acts_397 : decode cL_acts 397 = .ok (.irem, 1) := by decide +kernel
theorem dL_acts_398 : decode cL_acts 398 = .ok (.istore 14, 2) := by decide +kernel
theorem dL_acts_400 : decode cL_acts 400 = .ok (.aload_n 0, 1) := by decide +kernel
theorem dL_acts_401 : decode cL_acts 401 = .ok (.iconst 1, 1) := by decide +kernel
theorem dL_acts_402 : decode cL_acts 402 = .ok (.invokevirtual 9, 3) := by decide +kernel
theorem dL_acts_405 : decode cL_acts 405 = .ok (.bipush 6, 2) := by decide +kernel
theorem dL_acts_407 : decode cL_acts 407 = .ok (.if_icmp .ge 48, 3) := by decide +kernel
theorem dL_acts_410 : decode cL_acts 410 = .ok (.iload_n 2, 1) := by decide +kernel
theorem dL_acts_411 : decode cL_acts 411 = .ok (.iconst 5, 1) := by decide +kernel
theorem dL_acts_412 : decode cL_acts 412 = .ok (.ishr, 1) := by decide +kernel
theorem dL_acts_413 : decode cL_acts 413 = .ok (.iconst 1, 1) := by decide +kernel
theorem dL_acts_414 : decode cL_acts 414 = .ok (.iand, 1) := by decide +kernel
theorem dL_acts_415 : decode cL_acts 415 = .ok (.ifCond .ne 40, 3) := by decide +kernel
theorem dL_acts_418 : decode cL_acts 418 = .ok (.aload_n 0, 1) := by decide +kernel
theorem dL_acts_419 : decode cL_acts 419 = .ok (.iload_n 3, 1) := by decide +kernel
theorem dL_acts_420 : decode cL_acts 420 = .ok (.iload_n 2, 1) := by decide +kernel
theorem dL_acts_421 : decode cL_acts 421 = .ok (.bipush 7, 2) := by decide +kernel
theorem dL_acts_423 : decode cL_acts 423 = .ok (.ishr, 1) := by decide +kernel
theorem dL_acts_424 : decode cL_acts 424 = .ok (.sipush 4096, 3) := by decide +kernel
theorem dL_acts_427 : decode cL_acts 427 = .ok (.irem, 1) := by decide +kernel
theorem dL_acts_428 : decode cL_acts 428 = .ok (.iload_n 2, 1) := by decide +kernel
theorem dL_acts_429 : decode cL_acts 429 = .ok (.bipush 19, 2) := by decide +kernel
theorem dL_acts_431 : decode cL_acts 431 = .ok (.ishr, 1) := by decide +kernel
theorem dL_acts_432 : decode cL_acts 432 = .ok (.iconst 4, 1) := by decide +kernel
theorem dL_acts_433 : decode cL_acts 433 = .ok (.irem, 1) := by decide +kernel
theorem dL_acts_434 : decode cL_acts 434 = .ok (.invokevirtual 69, 3) := by decide +kernel
theorem dL_acts_437 : decode cL_acts 437 = .ok (.aload_n 0, 1) := by decide +kernel
theorem dL_acts_438 : decode cL_acts 438 = .ok (.iconst 1, 1) := by decide +kernel
theorem dL_acts_439 : decode cL_acts 439 = .ok (.invokevirtual 9, 3) := by decide +kernel
theorem dL_acts_442 : decode cL_acts 442 = .ok (.iconst 1, 1) := by decide +kernel
theorem dL_acts_443 : decode cL_acts 443 = .ok (.isub, 1) := by decide +kernel
theorem dL_acts_444 : decode cL_acts 444 = .ok (.if_icmp .ne 7, 3) := by decide +kernel
theorem dL_acts_447 : decode cL_acts 447 = .ok (.iconst 1, 1) := by decide +kernel
theorem dL_acts_448 : decode cL_acts 448 = .ok (.goto 48, 3) := by decide +kernel
theorem dL_acts_451 : decode cL_acts 451 = .ok (.iconst 0, 1) := by decide +kernel
theorem dL_acts_452 : decode cL_acts 452 = .ok (.goto 44, 3) := by decide +kernel
theorem dL_acts_455 : decode cL_acts 455 = .ok (.iload 14, 2) := by decide +kernel
theorem dL_acts_457 : decode cL_acts 457 = .ok (.ifCond .lt 34, 3) := by decide +kernel
theorem dL_acts_460 : decode cL_acts 460 = .ok (.aload_n 0, 1) := by decide +kernel
theorem dL_acts_461 : decode cL_acts 461 = .ok (.iload 14, 2) := by decide +kernel
theorem dL_acts_463 : decode cL_acts 463 = .ok (.iload_n 2, 1) := by decide +kernel
theorem dL_acts_464 : decode cL_acts 464 = .ok (.bipush 9, 2) := by decide +kernel
theorem dL_acts_466 : decode cL_acts 466 = .ok (.ishr, 1) := by decide +kernel
theorem dL_acts_467 : decode cL_acts 467 = .ok (.iconst 4, 1) := by decide +kernel
theorem dL_acts_468 : decode cL_acts 468 = .ok (.irem, 1) := by decide +kernel
theorem dL_acts_469 : decode cL_acts 469 = .ok (.invokevirtual 72, 3) := by decide +kernel
theorem dL_acts_472 : decode cL_acts 472 = .ok (.ifCond .lt 23, 3) := by decide +kernel
theorem dL_acts_475 : decode cL_acts 475 = .ok (.aload_n 0, 1) := by decide +kernel
theorem dL_acts_476 : decode cL_acts 476 = .ok (.iload 14, 2) := by decide +kernel
theorem dL_acts_478 : decode cL_acts 478 = .ok (.iconst 2, 1) := by decide +kernel
theorem dL_acts_479 : decode cL_acts 479 = .ok (.invokevirtual 47, 3) := by decide +kernel
theorem dL_acts_482 : decode cL_acts 482 = .ok (.iload_n 2, 1) := by decide +kernel
theorem dL_acts_483 : decode cL_acts 483 = .ok (.bipush 9, 2) := by decide +kernel
theorem dL_acts_485 : decode cL_acts 485 = .ok (.ishr, 1) := by decide +kernel
theorem dL_acts_486 : decode cL_acts 486 = .ok (.iconst 4, 1) := by decide +kernel
theorem dL_acts_487 : decode cL_acts 487 = .ok (.irem, 1) := by decide +kernel
theorem dL_acts_488 : decode cL_acts 488 = .ok (.if_icmp .ne 7, 3) := by decide +kernel
theorem dL_acts_491 : decode cL_acts 491 = .ok (.iconst 1, 1) := by decide +kernel
theorem dL_acts_492 : decode cL_acts 492 = .ok (.goto 4, 3) := by decide +kernel
theorem dL_acts_495 : decode cL_acts 495 = .ok (.iconst 0, 1) := by decide +kernel
theorem dL_acts_496 : decode cL_acts 496 = .ok (.ireturn, 1) := by decide +kernel
theorem dL_acts_497 : decode cL_acts 497 = .ok (.iload_n 2, 1) := by decide +kernel
theorem dL_acts_498 : decode cL_acts 498 = .ok (.iconst 1, 1) := by decide +kernel
theorem dL_acts_499 : decode cL_acts 499 = .ok (.iand, 1) := by decide +kernel
theorem dL_acts_500 : decode cL_acts 500 = .ok (.ifCond .ne 37, 3) := by decide +kernel
theorem dL_acts_503 : decode cL_acts 503 = .ok (.aload_n 0, 1) := by decide +kernel
theorem dL_acts_504 : decode cL_acts 504 = .ok (.iconst 0, 1) := by decide +kernel
theorem dL_acts_505 : decode cL_acts 505 = .ok (.iload_n 2, 1) := by decide +kernel
theorem dL_acts_506 : decode cL_acts 506 = .ok (.iconst 2, 1) := by decide +kernel
theorem dL_acts_507 : decode cL_acts 507 = .ok (.ishr, 1) := by decide +kernel
theorem dL_acts_508 : decode cL_acts 508 = .ok (.iconst 4, 1) := by decide +kernel
theorem dL_acts_509 : decode cL_acts 509 = .ok (.irem, 1) := by decide +kernel
theorem dL_acts_510 : decode cL_acts 510 = .ok (.invokevirtual 75, 3) := by decide +kernel
theorem dL_acts_513 : decode cL_acts 513 = .ok (.ifCond .lt 20, 3) := by decide +kernel
theorem dL_acts_516 : decode cL_acts 516 = .ok (.aload_n 0, 1) := by decide +kernel
theorem dL_acts_517 : decode cL_acts 517 = .ok (.iconst 3, 1) := by decide +kernel
theorem dL_acts_518 : decode cL_acts 518 = .ok (.invokevirtual 9, 3) := by decide +kernel
theorem dL_acts_521 : decode cL_acts 521 = .ok (.iload_n 2, 1) := by decide +kernel
theorem dL_acts_522 : decode cL_acts 522 = .ok (.iconst 2, 1) := by decide +kernel
theorem dL_acts_523 : decode cL_acts 523 = .ok (.ishr, 1) := by decide +kernel
theorem dL_acts_524 : decode cL_acts 524 = .ok (.iconst 4, 1) := by decide +kernel
theorem dL_acts_525 : decode cL_acts 525 = .ok (.irem, 1) := by decide +kernel
theorem dL_acts_526 : decode cL_acts 526 = .ok (.if_icmp .ne 7, 3) := by decide +kernel
theorem dL_acts_529 : decode cL_acts 529 = .ok (.iconst 1, 1) := by decide +kernel
theorem dL_acts_530 : decode cL_acts 530 = .ok (.goto 40, 3) := by decide +kernel
theorem dL_acts_533 : decode cL_acts 533 = .ok (.iconst 0, 1) := by decide +kernel
theorem dL_acts_534 : decode cL_acts 534 = .ok (.goto 36, 3) := by decide +kernel
theorem dL_acts_537 : decode cL_acts 537 = .ok (.aload_n 0, 1) := by decide +kernel
theorem dL_acts_538 : decode cL_acts 538 = .ok (.iconst 1, 1) := by decide +kernel
theorem dL_acts_539 : decode cL_acts 539 = .ok (.iload_n 2, 1) := by decide +kernel
theorem dL_acts_540 : decode cL_acts 540 = .ok (.iconst 2, 1) := by decide +kernel
theorem dL_acts_541 : decode cL_acts 541 = .ok (.ishr, 1) := by decide +kernel
theorem dL_acts_542 : decode cL_acts 542 = .ok (.bipush 9, 2) := by decide +kernel
theorem dL_acts_544 : decode cL_acts 544 = .ok (.irem, 1) := by decide +kernel
theorem dL_acts_545 : decode cL_acts 545 = .ok (.invokevirtual 75, 3) := by decide +kernel
theorem dL_acts_548 : decode cL_acts 548 = .ok (.ifCond .lt 21, 3) := by decide +kernel
theorem dL_acts_551 : decode cL_acts 551 = .ok (.aload_n 0, 1) := by decide +kernel
theorem dL_acts_552 : decode cL_acts 552 = .ok (.iconst 4, 1) := by decide +kernel
theorem dL_acts_553 : decode cL_acts 553 = .ok (.invokevirtual 9, 3) := by decide +kernel
theorem dL_acts_556 : decode cL_acts 556 = .ok (.iload_n 2, 1) := by decide +kernel
theorem dL_acts_557 : decode cL_acts 557 = .ok (.iconst 2, 1) := by decide +kernel
theorem dL_acts_558 : decode cL_acts 558 = .ok (.ishr, 1) := by decide +kernel
theorem dL_acts_559 : decode cL_acts 559 = .ok (.bipush 9, 2) := by decide +kernel
theorem dL_acts_561 : decode cL_acts 561 = .ok (.irem, 1) := by decide +kernel
theorem dL_acts_562 : decode cL_acts 562 = .ok (.if_icmp .ne 7, 3) := by decide +kernel
theorem dL_acts_565 : decode cL_acts 565 = .ok (.iconst 1, 1) := by decide +kernel
theorem dL_acts_566 : decode cL_acts 566 = .ok (.goto 4, 3) := by decide +kernel
theorem dL_acts_569 : decode cL_acts 569 = .ok (.iconst 0, 1) := by decide +kernel
theorem dL_acts_570 : decode cL_acts 570 = .ok (.ireturn, 1) := by decide +kernel
set_option maxRecDepth 20000 in
theorem ggL_law_X9_init : GoodIn wsL_law wsX9_init := goodIn_r _ [5, 6, 7, 8, 9, 10, 11, 12, 13, 14, 15, 16, 17, 18, 19, 20, 21, 22, 23, 24, 25, 26, 27, 28, 29, 30, 31, 32, 33, 34, 35, 36, 37, 38, 39, 40, 41, 42, 43, 44, 45, 46, 47, 48, 49, 50, 51, 52, 53, 54, 55, 56, 57, 58, 59, 60, 61, 62, 63, 64, 65, 66, 67, 68, 69, 70, 71, 72, 73, 74, 75, 76, 77, 78, 79, 80, 81, 82, 83, 84, 85, 86, 87, 88, 89, 90, 91, 92, 93, 94, 95, 96, 97, 98, 99, 100, 101, 102, 641, 642, 643, 644, 645, 646, 647, 635, 636, 637, 638, 639, 640, 648, 649, 650, 651, 652, 653, 654, 655, 656, 657, 658, 659, 660, 661, 662, 663, 664, 665, 666] (by decide +kernel) (by decide +kernel)
set_option maxRecDepth 20000 in
theorem gL_law_X9_init : GoodIn wsL_law (wsX9_init) := ggL_law_X9_init
set_option maxRecDepth 20000 in
theorem ggL_law_X9_about : GoodIn wsL_law wsX9_about := goodIn_ca (goodIn_r _ [106, 12, 107, 108, 2, 109, 110, 111, 112, 113, 114, 115, 116, 117, 11, 118, 62, 119, 120, 121, 40, 122, 75, 123, 124, 125, 36, 126, 70, 127, 128, 129, 130, 63, 131, 132, 133, 134, 64, 135, 136, 137, 138, 139, 140, 141, 142, 143, 144, 145, 146, 50, 147, 148, 149, 150, 151, 152, 153, 154, 155, 156, 157, 158, 51, 159, 160, 161, 162, 76, 163, 164, 165, 166, 43, 37, 167, 168, 169, 170, 171, 172, 173, 174, 175, 176, 177, 178, 179, 180, 181, 182, 183, 184, 185, 186, 187, 188, 189, 190, 191, 192, 193, 194, 195, 196, 635, 636, 637, 638, 639, 640, 641, 642, 643, 644, 645, 646, 647, 662, 663, 664, 665, 666, 656, 657, 658, 659, 660, 661] (by decide +kernel) (by decide +kernel)) (goodIn_sub (fun _ h => List.mem_append_left _ (List.mem_append_left _ (List.mem_append_right _ h))) (by decide +kernel))
set_option maxRecDepth 20000 in
theorem gL_law_X9_about : GoodIn wsL_law (wsV RL 9 RX9 yX9_about wsX9_about) := goodIn_app (goodIn_of _ (by decide +kernel)) ggL_law_X9_about
set_option maxRecDepth 20000 in
theorem gcL_law_L_sound_c : GoodIn wsL_law [.code yL_sound cL_sound 5 (some .boolean)] := goodIn_r _ [200] (by decide +kernel) (by decide +kernel)
set_option maxRecDepth 20000 in
theorem gcL_law_L_sound_r1 : GoodIn wsL_law wsL_sound_r1 := goodIn_r _ [201, 202, 199, 203, 103, 104, 105, 2, 106, 12, 107, 108, 109, 110, 111, 112, 113, 114, 115, 116, 117, 11, 118, 62] (by decide +kernel) (by decide +kernel)
set_option maxRecDepth 20000 in
theorem gcL_law_L_sound_r2 : GoodIn wsL_law wsL_sound_r2 := goodIn_r _ [119, 120, 121, 40, 122, 75, 123, 124, 125, 36, 126, 70, 127, 128, 129, 130, 63, 131, 132, 133, 134, 64, 135, 136] (by decide +kernel) (by decide +kernel)
set_option maxRecDepth 20000 in
theorem gcL_law_L_sound_r3 : GoodIn wsL_law wsL_sound_r3 := goodIn_r _ [137, 138, 139, 140, 141, 142, 143, 144, 145, 146, 50, 147, 148, 149, 150, 151, 152, 153, 154, 155, 156, 157, 158, 51] (by decide +kernel) (by decide +kernel)
set_option maxRecDepth 20000 in
theorem gcL_law_L_sound_r4 : GoodIn wsL_law wsL_sound_r4 := goodIn_r _ [159, 160, 161, 162, 76, 163, 164, 165, 166, 43, 37, 167, 168, 169, 170, 171, 172, 173, 174, 175, 176, 177, 178, 179] (by decide +kernel) (by decide +kernel)
set_option maxRecDepth 20000 in
theorem gcL_law_L_sound_r5 : GoodIn wsL_law wsL_sound_r5 := goodIn_r _ [180, 181, 182, 183, 184, 185, 186, 187, 188, 189, 190, 191, 192, 193, 194, 195, 196, 204, 205, 206, 207, 208, 209, 210] (by decide +kernel) (by decide +kernel)
set_option maxRecDepth 20000 in
theorem gcL_law_L_sound_r6 : GoodIn wsL_law wsL_sound_r6 := goodIn_r _ [211, 212, 213, 214, 215, 216, 217, 218, 48, 219, 220, 221, 222, 49, 223, 224, 225, 226, 47, 227, 228, 229, 230, 231] (by decide +kernel) (by decide +kernel)
set_option maxRecDepth 20000 in
theorem gcL_law_L_sound_r7 : GoodIn wsL_law wsL_sound_r7 := goodIn_r _ [232, 233, 234, 235, 236, 237, 238, 239, 240, 241, 242, 243, 244, 245, 246, 247, 248, 249, 250, 251, 252, 253, 254, 255] (by decide +kernel) (by decide +kernel)
set_option maxRecDepth 20000 in
theorem gcL_law_L_sound_r8 : GoodIn wsL_law wsL_sound_r8 := goodIn_r _ [256, 257, 258, 259, 260, 261, 262, 263, 264, 265, 266, 267, 268, 269, 270, 271, 272, 273, 274, 275, 276, 277, 278, 279] (by decide +kernel) (by decide +kernel)
set_option maxRecDepth 20000 in
theorem gcL_law_L_sound_r9 : GoodIn wsL_law wsL_sound_r9 := goodIn_r _ [280, 281, 282, 283, 284, 285, 286, 287, 288, 289, 290, 291, 292, 293, 41, 294, 295, 296, 297, 298, 299, 300, 301, 302] (by decide +kernel) (by decide +kernel)
set_option maxRecDepth 20000 in
theorem gcL_law_L_sound_r10 : GoodIn wsL_law wsL_sound_r10 := goodIn_r _ [303, 304, 305, 306, 307, 55, 308, 309, 310, 56, 57, 311, 312, 313, 314, 315, 316, 317, 318, 319, 320, 321, 322, 323] (by decide +kernel) (by decide +kernel)
set_option maxRecDepth 20000 in
theorem gcL_law_L_sound_r11 : GoodIn wsL_law wsL_sound_r11 := goodIn_r _ [324, 325, 326, 327, 65, 328, 329, 330, 331, 332, 333, 334, 335, 336, 337, 338, 339, 340, 341, 342, 343, 344, 345, 346] (by decide +kernel) (by decide +kernel)
set_option maxRecDepth 20000 in
theorem gcL_law_L_sound_r12 : GoodIn wsL_law wsL_sound_r12 := goodIn_r _ [347, 348, 349, 350, 351, 352, 353, 354, 355, 356, 357, 358, 359, 360, 361, 362, 363, 364, 365, 366, 367, 368, 369, 370] (by decide +kernel) (by decide +kernel)
set_option maxRecDepth 20000 in
theorem gcL_law_L_sound_r13 : GoodIn wsL_law wsL_sound_r13 := goodIn_r _ [371, 372, 373, 374, 375, 376, 377, 378, 379, 380, 381, 382, 383, 384, 385, 386, 387, 388, 389, 390, 391, 392, 393] (by decide +kernel) (by decide +kernel)
set_option maxRecDepth 20000 in
theorem gcL_law_L_sound_wsX90 : GoodIn wsL_law wsX90 := goodIn_r _ [635, 636, 637, 638, 639, 640] (by decide +kernel) (by decide +kernel)
set_option maxRecDepth 20000 in
theorem gcL_law_L_sound_wsX70 : GoodIn wsL_law wsX70 := goodIn_r _ [641, 642, 643, 644, 645, 646, 647] (by decide +kernel) (by decide +kernel)
set_option maxRecDepth 20000 in
theorem gcL_law_L_sound_wsX00 : GoodIn wsL_law wsX00 := goodIn_r _ [662, 663, 664, 665, 666] (by decide +kernel) (by decide +kernel)
set_option maxRecDepth 20000 in
theorem gcL_law_L_sound_wsX40 : GoodIn wsL_law wsX40 := goodIn_r _ [656, 657, 658, 659, 660, 661] (by decide +kernel) (by decide +kernel)
theorem ggL_law_L_sound : GoodIn wsL_law wsL_sound := goodIn_co gcL_law_L_sound_c (goodIn_app (goodIn_app (goodIn_app (goodIn_app (goodIn_app (goodIn_app (goodIn_app gcL_law_L_sound_r1 (goodIn_app gcL_law_L_sound_r2 (goodIn_app gcL_law_L_sound_r3 (goodIn_app gcL_law_L_sound_r4 (goodIn_app gcL_law_L_sound_r5 (goodIn_app gcL_law_L_sound_r6 (goodIn_app gcL_law_L_sound_r7 (goodIn_app gcL_law_L_sound_r8 (goodIn_app gcL_law_L_sound_r9 (goodIn_app gcL_law_L_sound_r10 (goodIn_app gcL_law_L_sound_r11 (goodIn_app gcL_law_L_sound_r12 gcL_law_L_sound_r13)))))))))))) gcL_law_L_sound_wsX90) gcL_law_L_sound_wsX70) gcL_law_L_sound_wsX00) gcL_law_L_sound_wsX40) (goodIn_sub (fun _ h => List.mem_append_left _ (List.mem_append_left _ (List.mem_append_right _ h))) (by decide +kernel))) (goodIn_sub (fun _ h => List.mem_append_left _ (List.mem_append_right _ h)) (by decide +kernel)))
set_option maxRecDepth 20000 in
theorem gL_law_L_sound : GoodIn wsL_law (va_wsS RL 79 yL_sound wsL_sound) := goodIn_app (goodIn_of _ (by decide +kernel)) ggL_law_L_sound
set_option maxRecDepth 20000 in
theorem ggL_law_X9_errorPosition : GoodIn wsL_law wsX9_errorPosition := goodIn_r _ [397, 29, 25, 13, 398, 399, 400, 28, 401, 402, 403, 404, 405, 406, 407, 408, 409, 24, 410, 411, 99, 412, 413, 414, 415, 416, 417, 2, 418, 419, 420, 59, 60, 11, 61, 37, 41, 43, 62, 63, 64, 65, 66, 67, 68, 36, 69, 70, 71, 72, 73, 40, 74, 75, 76, 77, 78, 79, 80, 421, 422, 423, 424, 425, 426, 427, 428, 429, 124, 125, 126, 430, 431, 432, 433, 434, 116, 117, 118, 435, 436, 437, 438, 439, 440, 441, 442, 47, 48, 49, 50, 51, 443, 444, 445, 446, 447, 448, 449, 450, 256, 249, 250, 251, 451, 452, 453, 454, 455, 456, 457, 458, 459, 460, 461, 462, 55, 56, 57, 463, 464, 465, 466, 467, 468, 469, 470, 471, 635, 636, 637, 638, 639, 640, 655, 653, 654, 641, 642, 643, 644, 645, 646, 647, 656, 657, 658, 659, 660, 661, 662, 663, 664, 665, 666] (by decide +kernel) (by decide +kernel)
set_option maxRecDepth 20000 in
theorem gL_law_X9_errorPosition : GoodIn wsL_law (wsV RL 82 RX9 yX9_errorPosition wsX9_errorPosition) := goodIn_app (goodIn_of _ (by decide +kernel)) ggL_law_X9_errorPosition
set_option maxRecDepth 20000 in
theorem ggL_law_L_cell : GoodIn wsL_law wsL_cell := goodIn_r _ [474, 475, 476] (by decide +kernel) (by decide +kernel)
set_option maxRecDepth 20000 in
theorem gL_law_L_cell : GoodIn wsL_law (va_wsS RL 86 yL_cell wsL_cell) := goodIn_app (goodIn_of _ (by decide +kernel)) ggL_law_L_cell
set_option maxRecDepth 20000 in
theorem gcL_law_L_acts_c : GoodIn wsL_law [.code yL_acts cL_acts 15 (some .boolean)] := goodIn_r _ [479] (by decide +kernel) (by decide +kernel)
set_option maxRecDepth 20000 in
theorem gcL_law_L_acts_r1 : GoodIn wsL_law wsL_acts_r1 := goodIn_r _ [103, 104, 105, 2, 106, 12, 107, 108, 109, 110, 111, 112, 113, 114, 115, 116, 117, 11, 118, 62, 119, 120, 121, 40] (by decide +kernel) (by decide +kernel)
set_option maxRecDepth 20000 in
theorem gcL_law_L_acts_r2 : GoodIn wsL_law wsL_acts_r2 := goodIn_r _ [122, 75, 123, 124, 125, 36, 126, 70, 127, 128, 129, 130, 63, 131, 132, 133, 134, 64, 135, 136, 137, 138, 139, 140] (by decide +kernel) (by decide +kernel)
set_option maxRecDepth 20000 in
theorem gcL_law_L_acts_r3 : GoodIn wsL_law wsL_acts_r3 := goodIn_r _ [141, 142, 143, 144, 145, 146, 50, 147, 148, 149, 150, 151, 152, 153, 154, 155, 156, 157, 158, 51, 159, 160, 161, 162] (by decide +kernel) (by decide +kernel)
set_option maxRecDepth 20000 in
theorem gcL_law_L_acts_r4 : GoodIn wsL_law wsL_acts_r4 := goodIn_r _ [76, 163, 164, 165, 166, 43, 37, 167, 168, 169, 170, 171, 172, 173, 174, 175, 176, 177, 178, 179, 180, 181, 182, 183] (by decide +kernel) (by decide +kernel)
set_option maxRecDepth 20000 in
theorem gcL_law_L_acts_r5 : GoodIn wsL_law wsL_acts_r5 := goodIn_r _ [184, 185, 186, 187, 188, 189, 190, 191, 192, 193, 194, 195, 196, 480, 481, 482, 483, 17, 244, 245, 246, 247, 248, 249] (by decide +kernel) (by decide +kernel)
set_option maxRecDepth 20000 in
theorem gcL_law_L_acts_r6 : GoodIn wsL_law wsL_acts_r6 := goodIn_r _ [250, 251, 209, 210, 211, 212, 213, 484, 485, 486, 487, 444, 445, 446, 488, 489, 490, 491, 492, 493, 494, 495, 16, 496] (by decide +kernel) (by decide +kernel)
set_option maxRecDepth 20000 in
theorem gcL_law_L_acts_r7 : GoodIn wsL_law wsL_acts_r7 := goodIn_r _ [497, 498, 499, 500, 501, 502, 86, 503, 504, 505, 506, 507, 508, 509, 510, 41, 511, 512, 513, 514, 65, 515, 516, 517] (by decide +kernel) (by decide +kernel)
set_option maxRecDepth 20000 in
theorem gcL_law_L_acts_r8 : GoodIn wsL_law wsL_acts_r8 := goodIn_r _ [518, 47, 519, 48, 49, 520, 521, 522, 523, 55, 524, 56, 57, 525, 436, 437, 438, 439, 440, 441, 442, 443, 447, 448] (by decide +kernel) (by decide +kernel)
set_option maxRecDepth 20000 in
theorem gcL_law_L_acts_r9 : GoodIn wsL_law wsL_acts_r9 := goodIn_r _ [449, 450, 256, 240, 241, 242, 243, 252, 253, 254, 255, 257, 223, 224, 225, 226, 258, 215, 216, 217, 218, 259, 260, 261] (by decide +kernel) (by decide +kernel)
set_option maxRecDepth 20000 in
theorem gcL_law_L_acts_r10 : GoodIn wsL_law wsL_acts_r10 := goodIn_r _ [262, 263, 264, 265, 266, 267, 268, 269, 270, 271, 272, 316, 317, 318, 319, 320, 321, 322, 323, 324, 325, 326, 327, 328] (by decide +kernel) (by decide +kernel)
set_option maxRecDepth 20000 in
theorem gcL_law_L_acts_r11 : GoodIn wsL_law wsL_acts_r11 := goodIn_r _ [309, 310, 329, 330, 331, 332, 298, 294, 295, 296, 297, 299, 333, 334, 335, 336, 337, 338, 339, 340, 341, 342, 343, 344] (by decide +kernel) (by decide +kernel)
set_option maxRecDepth 20000 in
theorem gcL_law_L_acts_r12 : GoodIn wsL_law wsL_acts_r12 := goodIn_r _ [345, 346, 347, 526, 527, 528, 529, 530, 531, 532, 533, 534, 535, 536, 537, 538, 539, 540, 204, 205, 206, 207, 208, 214] (by decide +kernel) (by decide +kernel)
set_option maxRecDepth 20000 in
theorem gcL_law_L_acts_r13 : GoodIn wsL_law wsL_acts_r13 := goodIn_r _ [219, 220, 221, 222, 227, 228, 229, 230, 231, 232, 233, 234, 235, 236, 541, 542, 543, 544, 545, 546, 547, 548, 286, 287] (by decide +kernel) (by decide +kernel)
set_option maxRecDepth 20000 in
theorem gcL_law_L_acts_r14 : GoodIn wsL_law wsL_acts_r14 := goodIn_r _ [288, 289, 290, 291, 292, 293, 300, 301, 302, 303, 304, 305, 306, 307, 308, 311, 312, 313, 314, 315, 549, 550, 551, 552] (by decide +kernel) (by decide +kernel)
set_option maxRecDepth 20000 in
theorem gcL_law_L_acts_r15 : GoodIn wsL_law wsL_acts_r15 := goodIn_r _ [553, 554, 555, 556, 557, 558, 559, 560, 561, 562, 563, 564, 565, 566, 567, 568, 569, 452, 453, 454, 570, 460, 461, 462] (by decide +kernel) (by decide +kernel)
set_option maxRecDepth 20000 in
theorem gcL_law_L_acts_r16 : GoodIn wsL_law wsL_acts_r16 := goodIn_r _ [463, 571, 572, 573, 574, 372, 575, 576, 577, 578, 579, 382, 383, 384, 368, 369, 370, 371, 373, 374, 375, 376, 377, 378] (by decide +kernel) (by decide +kernel)
set_option maxRecDepth 20000 in
theorem gcL_law_L_acts_r17 : GoodIn wsL_law wsL_acts_r17 := goodIn_r _ [379, 380, 381, 385, 386, 387, 388, 389, 390, 391, 392, 393, 580, 581, 582, 583, 584, 585, 586, 587, 469, 470, 471] (by decide +kernel) (by decide +kernel)
set_option maxRecDepth 20000 in
theorem gcL_law_L_acts_wsX90 : GoodIn wsL_law wsX90 := goodIn_r _ [635, 636, 637, 638, 639, 640] (by decide +kernel) (by decide +kernel)
set_option maxRecDepth 20000 in
theorem gcL_law_L_acts_wsX70 : GoodIn wsL_law wsX70 := goodIn_r _ [641, 642, 643, 644, 645, 646, 647] (by decide +kernel) (by decide +kernel)
set_option maxRecDepth 20000 in
theorem gcL_law_L_acts_wsX00 : GoodIn wsL_law wsX00 := goodIn_r _ [662, 663, 664, 665, 666] (by decide +kernel) (by decide +kernel)
set_option maxRecDepth 20000 in
theorem gcL_law_L_acts_wsX40 : GoodIn wsL_law wsX40 := goodIn_r _ [656, 657, 658, 659, 660, 661] (by decide +kernel) (by decide +kernel)
set_option maxRecDepth 20000 in
theorem gcL_law_L_acts_wsX10 : GoodIn wsL_law wsX10 := goodIn_r _ [648, 649, 650] (by decide +kernel) (by decide +kernel)
theorem ggL_law_L_acts : GoodIn wsL_law wsL_acts := goodIn_co gcL_law_L_acts_c (goodIn_app (goodIn_app (goodIn_app (goodIn_app (goodIn_app (goodIn_app (goodIn_app (goodIn_app (goodIn_app gcL_law_L_acts_r1 (goodIn_app gcL_law_L_acts_r2 (goodIn_app gcL_law_L_acts_r3 (goodIn_app gcL_law_L_acts_r4 (goodIn_app gcL_law_L_acts_r5 (goodIn_app gcL_law_L_acts_r6 (goodIn_app gcL_law_L_acts_r7 (goodIn_app gcL_law_L_acts_r8 (goodIn_app gcL_law_L_acts_r9 (goodIn_app gcL_law_L_acts_r10 (goodIn_app gcL_law_L_acts_r11 (goodIn_app gcL_law_L_acts_r12 (goodIn_app gcL_law_L_acts_r13 (goodIn_app gcL_law_L_acts_r14 (goodIn_app gcL_law_L_acts_r15 (goodIn_app gcL_law_L_acts_r16 gcL_law_L_acts_r17)))))))))))))))) gcL_law_L_acts_wsX90) gcL_law_L_acts_wsX70) gcL_law_L_acts_wsX00) gcL_law_L_acts_wsX40) gcL_law_L_acts_wsX10) (goodIn_sub (fun _ h => List.mem_append_left _ (List.mem_append_left _ (List.mem_append_right _ h))) (by decide +kernel))) (goodIn_sub (fun _ h => List.mem_append_left _ (List.mem_append_right _ h)) (by decide +kernel))) (goodIn_sub (fun _ h => List.mem_append_right _ h) (by decide +kernel)))
set_option maxRecDepth 20000 in
theorem gL_law_L_acts : GoodIn wsL_law (va_wsS RL 90 yL_acts wsL_acts) := goodIn_app (goodIn_of _ (by decide +kernel)) ggL_law_L_acts
set_option maxRecDepth 20000 in
theorem ggL_law_X9_set : GoodIn wsL_law wsX9_set := goodIn_ca (goodIn_r _ [583, 17, 12, 584, 585, 2, 586, 107, 108, 109, 110, 111, 112, 113, 114, 493, 494, 495, 16, 496, 497, 498, 499, 500, 501, 502, 86, 503, 504, 505, 506, 507, 508, 509, 11, 510, 37, 41, 43, 511, 512, 513, 514, 62, 63, 64, 65, 515, 516, 517, 36, 518, 47, 519, 48, 49, 50, 51, 70, 520, 521, 522, 40, 523, 55, 524, 56, 57, 75, 76, 587, 469, 470, 471, 635, 636, 637, 638, 639, 640, 648, 649, 650, 641, 642, 643, 644, 645, 646, 647, 656, 657, 658, 659, 660, 661, 662, 663, 664, 665, 666] (by decide +kernel) (by decide +kernel)) (goodIn_sub (fun _ h => List.mem_append_left _ (List.mem_append_left _ (List.mem_append_right _ h))) (by decide +kernel))
set_option maxRecDepth 20000 in
theorem gL_law_X9_set : GoodIn wsL_law (wsV RL 75 RX9 yX9_set wsX9_set) := goodIn_app (goodIn_of _ (by decide +kernel)) ggL_law_X9_set
set_option maxRecDepth 20000 in
theorem ggL_law_X9_enter : GoodIn wsL_law wsX9_enter := goodIn_ca (goodIn_ca (goodIn_ca (goodIn_r _ [483, 12, 17, 244, 245, 246, 2, 247, 248, 249, 250, 11, 251, 62, 209, 210, 211, 212, 213, 484, 485, 486, 107, 108, 109, 110, 111, 112, 113, 114, 487, 444, 445, 36, 446, 70, 488, 489, 490, 491, 492, 493, 494, 495, 16, 496, 497, 498, 499, 500, 501, 502, 86, 503, 504, 505, 506, 507, 508, 509, 510, 37, 41, 43, 511, 512, 513, 514, 63, 64, 65, 515, 516, 517, 518, 47, 519, 48, 49, 50, 51, 520, 521, 522, 40, 523, 55, 524, 56, 57, 75, 76, 525, 436, 437, 438, 439, 440, 441, 442, 443, 447, 448, 449, 450, 256, 635, 636, 637, 638, 639, 640, 641, 642, 643, 644, 645, 646, 647, 656, 657, 658, 659, 660, 661, 648, 649, 650, 662, 663, 664, 665, 666] (by decide +kernel) (by decide +kernel)) (goodIn_sub (fun _ h => List.mem_append_left _ (List.mem_append_right _ h)) (by decide +kernel))) (goodIn_sub (fun _ h => List.mem_append_left _ (List.mem_append_left _ (List.mem_append_right _ h))) (by decide +kernel))) (goodIn_sub (fun _ h => List.mem_append_right _ h) (by decide +kernel))
set_option maxRecDepth 20000 in
theorem gL_law_X9_enter : GoodIn wsL_law (wsV RL 57 RX9 yX9_enter wsX9_enter) := goodIn_app (goodIn_of _ (by decide +kernel)) ggL_law_X9_enter
set_option maxRecDepth 20000 in
theorem ggL_law_X9_wouldBe : GoodIn wsL_law wsX9_wouldBe := goodIn_ca (goodIn_r _ [319, 12, 244, 245, 246, 2, 247, 248, 249, 250, 11, 251, 62, 209, 210, 211, 212, 213, 320, 321, 322, 323, 324, 325, 326, 327, 65, 63, 328, 309, 181, 310, 329, 330, 331, 332, 298, 253, 254, 255, 43, 256, 294, 295, 296, 297, 37, 299, 224, 225, 36, 226, 47, 147, 148, 149, 150, 70, 333, 334, 335, 336, 337, 338, 339, 340, 341, 342, 343, 344, 345, 346, 347, 635, 636, 637, 638, 639, 640, 641, 642, 643, 644, 645, 646, 647, 656, 657, 658, 659, 660, 661] (by decide +kernel) (by decide +kernel)) (goodIn_sub (fun _ h => List.mem_append_left _ (List.mem_append_right _ h)) (by decide +kernel))
set_option maxRecDepth 20000 in
theorem gL_law_X9_wouldBe : GoodIn wsL_law (wsV RL 32 RX9 yX9_wouldBe wsX9_wouldBe) := goodIn_app (goodIn_of _ (by decide +kernel)) ggL_law_X9_wouldBe
set_option maxRecDepth 20000 in
theorem ggL_law_X9_save : GoodIn wsL_law wsX9_save := goodIn_ca (goodIn_r _ [591, 21, 12, 592, 593, 594, 20, 595, 209, 210, 2, 211, 212, 213, 596, 597, 598, 599, 600, 601, 602, 603, 604, 93, 605, 606, 508, 509, 11, 510, 37, 41, 43, 511, 512, 513, 514, 62, 63, 64, 65, 515, 516, 517, 36, 518, 47, 519, 48, 49, 50, 51, 70, 520, 521, 522, 40, 523, 55, 524, 56, 57, 75, 76, 123, 124, 125, 126, 635, 636, 637, 638, 639, 640, 641, 642, 643, 644, 645, 646, 647, 651, 652, 656, 657, 658, 659, 660, 661, 662, 663, 664, 665, 666] (by decide +kernel) (by decide +kernel)) (goodIn_sub (fun _ h => List.mem_append_left _ (List.mem_append_right _ h)) (by decide +kernel))
set_option maxRecDepth 20000 in
theorem gL_law_X9_save : GoodIn wsL_law (wsV RL 94 RX9 yX9_save wsX9_save) := goodIn_app (goodIn_of _ (by decide +kernel)) ggL_law_X9_save
set_option maxRecDepth 20000 in
theorem ggL_law_X9_teach : GoodIn wsL_law wsX9_teach := goodIn_ca (goodIn_ca (goodIn_ca (goodIn_r _ [529, 12, 17, 244, 245, 246, 2, 247, 248, 249, 250, 11, 251, 62, 209, 210, 211, 212, 213, 110, 111, 112, 113, 114, 530, 531, 532, 533, 37, 329, 330, 331, 332, 298, 253, 254, 255, 43, 256, 534, 444, 445, 36, 446, 70, 488, 489, 490, 491, 492, 493, 494, 495, 16, 496, 497, 498, 499, 500, 501, 502, 86, 503, 504, 505, 506, 507, 508, 509, 510, 41, 511, 512, 513, 514, 63, 64, 65, 515, 516, 517, 518, 47, 519, 48, 49, 50, 51, 520, 521, 522, 40, 523, 55, 524, 56, 57, 75, 76, 535, 536, 537, 538, 328, 309, 181, 310, 333, 334, 335, 336, 337, 338, 539, 343, 344, 299, 224, 225, 226, 147, 148, 149, 150, 540, 346, 347, 439, 440, 441, 442, 443, 447, 448, 449, 450, 635, 636, 637, 638, 639, 640, 641, 642, 643, 644, 645, 646, 647, 656, 657, 658, 659, 660, 661, 648, 649, 650, 662, 663, 664, 665, 666] (by decide +kernel) (by decide +kernel)) (goodIn_sub (fun _ h => List.mem_append_left _ (List.mem_append_right _ h)) (by decide +kernel))) (goodIn_sub (fun _ h => List.mem_append_left _ (List.mem_append_left _ (List.mem_append_right _ h))) (by decide +kernel))) (goodIn_sub (fun _ h => List.mem_append_right _ h) (by decide +kernel))
set_option maxRecDepth 20000 in
theorem gL_law_X9_teach : GoodIn wsL_law (wsV RL 60 RX9 yX9_teach wsX9_teach) := goodIn_app (goodIn_of _ (by decide +kernel)) ggL_law_X9_teach
set_option maxRecDepth 20000 in
theorem ggL_law_X9_undo : GoodIn wsL_law wsX9_undo := goodIn_ca (goodIn_r _ [610, 17, 12, 611, 612, 613, 16, 614, 497, 488, 489, 2, 490, 491, 492, 615, 616, 617, 618, 499, 500, 501, 502, 86, 498, 503, 504, 505, 506, 507, 508, 509, 11, 510, 37, 41, 43, 511, 512, 513, 514, 62, 63, 64, 65, 515, 516, 517, 36, 518, 47, 519, 48, 49, 50, 51, 70, 520, 521, 522, 40, 523, 55, 524, 56, 57, 75, 76, 635, 636, 637, 638, 639, 640, 648, 649, 650, 641, 642, 643, 644, 645, 646, 647, 656, 657, 658, 659, 660, 661, 662, 663, 664, 665, 666] (by decide +kernel) (by decide +kernel)) (goodIn_sub (fun _ h => List.mem_append_right _ h) (by decide +kernel))
set_option maxRecDepth 20000 in
theorem gL_law_X9_undo : GoodIn wsL_law (wsV RL 97 RX9 yX9_undo wsX9_undo) := goodIn_app (goodIn_of _ (by decide +kernel)) ggL_law_X9_undo
set_option maxRecDepth 20000 in
theorem ggL_law_X9_erase : GoodIn wsL_law wsX9_erase := goodIn_ca (goodIn_r _ [544, 17, 12, 244, 245, 246, 2, 247, 248, 249, 250, 11, 251, 62, 209, 210, 211, 212, 213, 493, 494, 495, 16, 496, 497, 498, 499, 500, 501, 502, 86, 503, 504, 505, 506, 507, 508, 509, 510, 37, 41, 43, 511, 512, 513, 514, 63, 64, 65, 515, 516, 517, 36, 518, 47, 519, 48, 49, 50, 51, 70, 520, 521, 522, 40, 523, 55, 524, 56, 57, 75, 76, 545, 546, 547, 548, 294, 295, 296, 297, 298, 253, 254, 255, 256, 299, 224, 225, 226, 147, 148, 149, 150, 447, 448, 449, 450, 635, 636, 637, 638, 639, 640, 641, 642, 643, 644, 645, 646, 647, 648, 649, 650, 656, 657, 658, 659, 660, 661, 662, 663, 664, 665, 666] (by decide +kernel) (by decide +kernel)) (goodIn_sub (fun _ h => List.mem_append_left _ (List.mem_append_right _ h)) (by decide +kernel))
set_option maxRecDepth 20000 in
theorem gL_law_X9_erase : GoodIn wsL_law (wsV RL 63 RX9 yX9_erase wsX9_erase) := goodIn_app (goodIn_of _ (by decide +kernel)) ggL_law_X9_erase
set_option maxRecDepth 20000 in
theorem ggL_law_X9_restore : GoodIn wsL_law wsX9_restore := goodIn_ca (goodIn_ca (goodIn_r _ [622, 21, 12, 17, 592, 593, 594, 20, 595, 209, 210, 2, 211, 212, 213, 623, 624, 625, 626, 600, 605, 488, 489, 490, 491, 492, 627, 628, 629, 630, 601, 602, 603, 604, 93, 606, 508, 509, 11, 510, 37, 41, 43, 511, 512, 513, 514, 62, 63, 64, 65, 515, 516, 517, 36, 518, 47, 519, 48, 49, 50, 51, 70, 520, 521, 522, 40, 523, 55, 524, 56, 57, 75, 76, 631, 632, 633, 16, 634, 497, 123, 124, 125, 126, 635, 636, 637, 638, 639, 640, 641, 642, 643, 644, 645, 646, 647, 651, 652, 656, 657, 658, 659, 660, 661, 662, 663, 664, 665, 666, 648, 649, 650] (by decide +kernel) (by decide +kernel)) (goodIn_sub (fun _ h => List.mem_append_left _ (List.mem_append_right _ h)) (by decide +kernel))) (goodIn_sub (fun _ h => List.mem_append_right _ h) (by decide +kernel))
set_option maxRecDepth 20000 in
theorem gL_law_X9_restore : GoodIn wsL_law (wsV RL 100 RX9 yX9_restore wsX9_restore) := goodIn_app (goodIn_of _ (by decide +kernel)) ggL_law_X9_restore
theorem dL_law_0 : decode cL_law 0 = .ok (.new 10, 3) := by decide +kernel
theorem dL_law_3 : decode cL_law 3 = .ok (.dup, 1) := by decide +kernel
theorem dL_law_4 : decode cL_law 4 = .ok (.invokespecial 78, 3) := by decide +kernel
theorem dL_law_7 : decode cL_law 7 = .ok (.astore_n 1, 1) := by decide +kernel
theorem dL_law_8 : decode cL_law 8 = .ok (.aload_n 1, 1) := by decide +kernel
theorem dL_law_9 : decode cL_law 9 = .ok (.iconst 0, 1) := by decide +kernel
theorem dL_law_10 : decode cL_law 10 = .ok (.invokevirtual 9, 3) := by decide +kernel
theorem dL_law_13 : decode cL_law 13 = .ok (.iconst 4, 1) := by decide +kernel
theorem dL_law_14 : decode cL_law 14 = .ok (.if_icmp .ne 32, 3) := by decide +kernel
theorem dL_law_17 : decode cL_law 17 = .ok (.aload_n 1, 1) := by decide +kernel
theorem dL_law_18 : decode cL_law 18 = .ok (.bipush 9, 2) := by decide +kernel
theorem dL_law_20 : decode cL_law 20 = .ok (.invokevirtual 9, 3) := by decide +kernel
theorem dL_law_23 : decode cL_law 23 = .ok (.bipush (-9), 2) := by decide +kernel
theorem dL_law_25 : decode cL_law 25 = .ok (.if_icmp .ne 21, 3) := by decide +kernel
theorem dL_law_28 : decode cL_law 28 = .ok (.aload_n 1, 1) := by decide +kernel
theorem dL_law_29 : decode cL_law 29 = .ok (.invokestatic 79, 3) := by decide +kernel
theorem dL_law_32 : decode cL_law 32 = .ok (.ifCond .eq 14, 3) := by decide +kernel
theorem dL_law_35 : decode cL_law 35 = .ok (.aload_n 1, 1) := by decide +kernel
theorem dL_law_36 : decode cL_law 36 = .ok (.invokevirtual 82, 3) := by decide +kernel
theorem dL_law_39 : decode cL_law 39 = .ok (.ifCond .ne 7, 3) := by decide +kernel
theorem dL_law_42 : decode cL_law 42 = .ok (.iconst 1, 1) := by decide +kernel
theorem dL_law_43 : decode cL_law 43 = .ok (.goto 4, 3) := by decide +kernel
theorem dL_law_46 : decode cL_law 46 = .ok (.iconst 0, 1) := by decide +kernel
theorem dL_law_47 : decode cL_law 47 = .ok (.istore_n 2, 1) := by decide +kernel
theorem dL_law_48 : decode cL_law 48 = .ok (.iconst 0, 1) := by decide +kernel
theorem dL_law_49 : decode cL_law 49 = .ok (.istore_n 3, 1) := by decide +kernel
theorem dL_law_50 : decode cL_law 50 = .ok (.iload_n 3, 1) := by decide +kernel
theorem dL_law_51 : decode cL_law 51 = .ok (.bipush 36, 2) := by decide +kernel
theorem dL_law_53 : decode cL_law 53 = .ok (.if_icmp .ge 38, 3) := by decide +kernel
theorem dL_law_56 : decode cL_law 56 = .ok (.iload_n 2, 1) := by decide +kernel
theorem dL_law_57 : decode cL_law 57 = .ok (.ifCond .eq 34, 3) := by decide +kernel
theorem dL_law_60 : decode cL_law 60 = .ok (.aload_n 1, 1) := by decide +kernel
theorem dL_law_61 : decode cL_law 61 = .ok (.aload_n 0, 1) := by decide +kernel
theorem dL_law_62 : decode cL_law 62 = .ok (.iload_n 3, 1) := by decide +kernel
theorem dL_law_63 : decode cL_law 63 = .ok (.invokestatic 86, 3) := by decide +kernel
theorem dL_law_66 : decode cL_law 66 = .ok (.invokestatic 90, 3) := by decide +kernel
theorem dL_law_69 : decode cL_law 69 = .ok (.ifCond .eq 14, 3) := by decide +kernel
theorem dL_law_72 : decode cL_law 72 = .ok (.aload_n 1, 1) := by decide +kernel
theorem dL_law_73 : decode cL_law 73 = .ok (.invokestatic 79, 3) := by decide +kernel
theorem dL_law_76 : decode cL_law 76 = .ok (.ifCond .eq 7, 3) := by decide +kernel
theorem dL_law_79 : decode cL_law 79 = .ok (.iconst 1, 1) := by decide +kernel
theorem dL_law_80 : decode cL_law 80 = .ok (.goto 4, 3) := by decide +kernel
theorem dL_law_83 : decode cL_law 83 = .ok (.iconst 0, 1) := by decide +kernel
theorem dL_law_84 : decode cL_law 84 = .ok (.istore_n 2, 1) := by decide +kernel
theorem dL_law_85 : decode cL_law 85 = .ok (.iinc 3 1, 3) := by decide +kernel
theorem dL_law_88 : decode cL_law 88 = .ok (.goto (-38), 3) := by decide +kernel
theorem dL_law_91 : decode cL_law 91 = .ok (.iload_n 2, 1) := by decide +kernel
theorem dL_law_92 : decode cL_law 92 = .ok (.ifCond .eq 37, 3) := by decide +kernel
theorem dL_law_95 : decode cL_law 95 = .ok (.aload_n 1, 1) := by decide +kernel
theorem dL_law_96 : decode cL_law 96 = .ok (.iconst 0, 1) := by decide +kernel
theorem dL_law_97 : decode cL_law 97 = .ok (.iconst 3, 1) := by decide +kernel
theorem dL_law_98 : decode cL_law 98 = .ok (.invokevirtual 75, 3) := by decide +kernel
theorem dL_law_101 : decode cL_law 101 = .ok (.ifCond .lt 28, 3) := by decide +kernel
theorem dL_law_104 : decode cL_law 104 = .ok (.aload_n 1, 1) := by decide +kernel
theorem dL_law_105 : decode cL_law 105 = .ok (.iconst 2, 1) := by decide +kernel
theorem dL_law_106 : decode cL_law 106 = .ok (.invokevirtual 9, 3) := by decide +kernel
theorem dL_law_109 : decode cL_law 109 = .ok (.bipush 40, 2) := by decide +kernel
theorem dL_law_111 : decode cL_law 111 = .ok (.if_icmp .eq 14, 3) := by decide +kernel
theorem dL_law_114 : decode cL_law 114 = .ok (.aload_n 1, 1) := by decide +kernel
theorem dL_law_115 : decode cL_law 115 = .ok (.iconst 0, 1) := by decide +kernel
theorem dL_law_116 : decode cL_law 116 = .ok (.iconst 0, 1) := by decide +kernel
theorem dL_law_117 : decode cL_law 117 = .ok (.bipush 99, 2) := by decide +kernel
theorem dL_law_119 : decode cL_law 119 = .ok (.invokevirtual 57, 3) := by decide +kernel
theorem dL_law_122 : decode cL_law 122 = .ok (.ifCond .lt 7, 3) := by decide +kernel
theorem dL_law_125 : decode cL_law 125 = .ok (.iconst 1, 1) := by decide +kernel
theorem dL_law_126 : decode cL_law 126 = .ok (.goto 4, 3) := by decide +kernel
theorem dL_law_129 : decode cL_law 129 = .ok (.iconst 0, 1) := by decide +kernel
theorem dL_law_130 : decode cL_law 130 = .ok (.istore_n 2, 1) := by decide +kernel
theorem dL_law_131 : decode cL_law 131 = .ok (.aload_n 1, 1) := by decide +kernel
theorem dL_law_132 : decode cL_law 132 = .ok (.iconst 0, 1) := by decide +kernel
theorem dL_law_133 : decode cL_law 133 = .ok (.iconst 0, 1) := by decide +kernel
theorem dL_law_134 : decode cL_law 134 = .ok (.iconst 3, 1) := by decide +kernel
theorem dL_law_135 : decode cL_law 135 = .ok (.invokevirtual 32, 3) := by decide +kernel
theorem dL_law_138 : decode cL_law 138 = .ok (.istore_n 3, 1) := by decide +kernel
theorem dL_law_139 : decode cL_law 139 = .ok (.aload_n 1, 1) := by decide +kernel
theorem dL_law_140 : decode cL_law 140 = .ok (.iconst 2, 1) := by decide +kernel
theorem dL_law_141 : decode cL_law 141 = .ok (.invokevirtual 9, 3) := by decide +kernel
theorem dL_law_144 : decode cL_law 144 = .ok (.istore 4, 2) := by decide +kernel
theorem dL_law_146 : decode cL_law 146 = .ok (.iload_n 2, 1) := by decide +kernel
theorem dL_law_147 : decode cL_law 147 = .ok (.ifCond .eq 47, 3) := by decide +kernel
theorem dL_law_150 : decode cL_law 150 = .ok (.aload_n 1, 1) := by decide +kernel
theorem dL_law_151 : decode cL_law 151 = .ok (.iconst 1, 1) := by decide +kernel
theorem dL_law_152 : decode cL_law 152 = .ok (.invokevirtual 94, 3) := by decide +kernel
theorem dL_law_155 : decode cL_law 155 = .ok (.iload 4, 2) := by decide +kernel
theorem dL_law_157 : decode cL_law 157 = .ok (.if_icmp .ne 37, 3) := by decide +kernel
theorem dL_law_160 : decode cL_law 160 = .ok (.iload 4, 2) := by decide +kernel
theorem dL_law_162 : decode cL_law 162 = .ok (.bipush 40, 2) := by decide +kernel
theorem dL_law_164 : decode cL_law 164 = .ok (.if_icmp .eq 26, 3) := by decide +kernel
theorem dL_law_167 : decode cL_law 167 = .ok (.iload_n 3, 1) := by decide +kernel
theorem dL_law_168 : decode cL_law 168 = .ok (.ifCond .lt 22, 3) := by decide +kernel
theorem dL_law_171 : decode cL_law 171 = .ok (.aload_n 1, 1) := by decide +kernel
theorem dL_law_172 : decode cL_law 172 = .ok (.iconst 0, 1) := by decide +kernel
theorem dL_law_173 : decode cL_law 173 = .ok (.iconst 0, 1) := by decide +kernel
theorem dL_law_174 : decode cL_law 174 = .ok (.iconst 3, 1) := by decide +kernel
theorem dL_law_175 : decode cL_law 175 = .ok (.iconst 5, 1) := by decide +kernel
theorem dL_law_176 : decode cL_law 176 = .ok (.invokevirtual 60, 3) := by decide +kernel
theorem dL_law_179 : decode cL_law 179 = .ok (.iload_n 3, 1) := by decide +kernel
theorem dL_law_180 : decode cL_law 180 = .ok (.if_icmp .ne 14, 3) := by decide +kernel
theorem dL_law_183 : decode cL_law 183 = .ok (.aload_n 1, 1) := by decide +kernel
theorem dL_law_184 : decode cL_law 184 = .ok (.invokevirtual 97, 3) := by decide +kernel
theorem dL_law_187 : decode cL_law 187 = .ok (.ifCond .lt 7, 3) := by decide +kernel
theorem dL_law_190 : decode cL_law 190 = .ok (.iconst 1, 1) := by decide +kernel
theorem dL_law_191 : decode cL_law 191 = .ok (.goto 4, 3) := by decide +kernel
theorem dL_law_194 : decode cL_law 194 = .ok (.iconst 0, 1) := by decide +kernel
theorem dL_law_195 : decode cL_law 195 = .ok (.istore_n 2, 1) := by decide +kernel
theorem dL_law_196 : decode cL_law 196 = .ok (.iload_n 2, 1) := by decide +kernel
theorem dL_law_197 : decode cL_law 197 = .ok (.ifCond .eq 57, 3) := by decide +kernel
theorem dL_law_200 : decode cL_law 200 = .ok (.aload_n 1, 1) := by decide +kernel
theorem dL_law_201 : decode cL_law 201 = .ok (.iconst 0, 1) := by decide +kernel
theorem dL_law_202 : decode cL_law 202 = .ok (.iconst 0, 1) := by decide +kernel
theorem dL_law_203 : decode cL_law 203 = .ok (.iconst 3, 1) := by decide +kernel
theorem dL_law_204 : decode cL_law 204 = .ok (.invokevirtual 32, 3) := by decide +kernel
theorem dL_law_207 : decode cL_law 207 = .ok (.iload_n 3, 1) := by decide +kernel
theorem dL_law_208 : decode cL_law 208 = .ok (.if_icmp .ne 46, 3) := by decide +kernel
theorem dL_law_211 : decode cL_law 211 = .ok (.aload_n 1, 1) := by decide +kernel
theorem dL_law_212 : decode cL_law 212 = .ok (.iconst 0, 1) := by decide +kernel
theorem dL_law_213 : decode cL_law 213 = .ok (.iconst 0, 1) := by decide +kernel
theorem dL_law_214 : decode cL_law 214 = .ok (.invokevirtual 63, 3) := by decide +kernel
theorem dL_law_217 : decode cL_law 217 = .ok (.bipush (-9), 2) := by decide +kernel
theorem dL_law_219 : decode cL_law 219 = .ok (.if_icmp .lt 35, 3) := by decide +kernel
theorem dL_law_222 : decode cL_law 222 = .ok (.aload_n 1, 1) := by decide +kernel
theorem dL_law_223 : decode cL_law 223 = .ok (.iconst 1, 1) := by decide +kernel
theorem dL_law_224 : decode cL_law 224 = .ok (.invokevirtual 100, 3) := by decide +kernel
theorem dL_law_227 : decode cL_law 227 = .ok (.iload 4, 2) := by decide +kernel
theorem dL_law_229 : decode cL_law 229 = .ok (.if_icmp .ne 25, 3) := by decide +kernel
theorem dL_law_232 : decode cL_law 232 = .ok (.aload_n 1, 1) := by decide +kernel
theorem dL_law_233 : decode cL_law 233 = .ok (.iconst 0, 1) := by decide +kernel
theorem dL_law_234 : decode cL_law 234 = .ok (.iconst 0, 1) := by decide +kernel
theorem dL_law_235 : decode cL_law 235 = .ok (.iconst 3, 1) := by decide +kernel
theorem dL_law_236 : decode cL_law 236 = .ok (.invokevirtual 32, 3) := by decide +kernel
theorem dL_law_239 : decode cL_law 239 = .ok (.iload_n 3, 1) := by decide +kernel
theorem dL_law_240 : decode cL_law 240 = .ok (.if_icmp .ne 14, 3) := by decide +kernel
theorem dL_law_243 : decode cL_law 243 = .ok (.aload_n 1, 1) := by decide +kernel
theorem dL_law_244 : decode cL_law 244 = .ok (.invokestatic 79, 3) := by decide +kernel
theorem dL_law_247 : decode cL_law 247 = .ok (.ifCond .eq 7, 3) := by decide +kernel
theorem dL_law_250 : decode cL_law 250 = .ok (.iconst 1, 1) := by decide +kernel
theorem dL_law_251 : decode cL_law 251 = .ok (.goto 4, 3) := by decide +kernel
theorem dL_law_254 : decode cL_law 254 = .ok (.iconst 0, 1) := by decide +kernel
theorem dL_law_255 : decode cL_law 255 = .ok (.ireturn, 1) := by decide +kernel
abbrev vwCl : List vw_C := [(RX0, TX0, 5), (RX1, TX1, 3), (RX3, TX3, 1), (RX4, TX4, 6), (RX6, TX6, 2), (RX7, TX7, 7), (RX8, TX8, 2), (RX9, TX9, 6)]
