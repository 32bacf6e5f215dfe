set_option maxRecDepth 20000 in
theorem ggL_register_X6_register : GoodIn wsL_register wsX6_register := goodIn_ca (goodIn_ca (goodIn_ca (goodIn_ca (goodIn_r _ [6, 7, 8, 9, 5, 10, 11, 12, 13, 14, 15, 16, 17, 18, 19, 20, 21, 22, 23, 24, 25, 26, 27, 28, 29, 30, 31, 32, 33, 34, 35, 36, 37, 38, 39, 40, 41, 42, 43, 44, 45, 46, 47, 48, 49, 50, 51, 52, 53, 54, 55, 56, 57, 58, 59, 60, 61, 62, 63, 64, 65, 66, 67, 68, 69, 70, 71, 72, 73, 74, 75, 76, 77, 78, 79, 80, 81, 82, 83, 84, 85, 86, 87, 88, 89, 90, 91, 92, 93, 94, 95, 96, 97, 98, 99, 100, 101, 102, 103, 104, 105, 106, 107, 108, 109, 110, 111, 112, 113, 114, 115, 116, 117, 118, 119, 120, 121, 122, 123, 124, 125, 126, 127, 128, 129] (by decide +kernel) (by decide +kernel)) (goodIn_sub (fun _ h => List.mem_cons_of_mem _ (List.mem_append_left _ (List.mem_append_left _ (List.mem_append_left _ (List.mem_append_right _ h))))) (by decide +kernel))) (goodIn_sub (fun _ h => List.mem_cons_of_mem _ (List.mem_append_left _ (List.mem_append_left _ (List.mem_append_right _ h)))) (by decide +kernel))) (goodIn_sub (fun _ h => List.mem_cons_of_mem _ (List.mem_append_left _ (List.mem_append_right _ h))) (by decide +kernel))) (goodIn_sub (fun _ h => List.mem_cons_of_mem _ (List.mem_append_right _ h)) (by decide +kernel))
set_option maxRecDepth 20000 in
theorem gL_register_X6_register : GoodIn wsL_register (wsV RL 7 RX6 yX6_register wsX6_register) := goodIn_app (goodIn_of _ (by decide +kernel)) ggL_register_X6_register
theorem dL_register_0 : decode cL_register 0 = .ok (.aload_n 2, 1) := by decide +kernel
theorem dL_register_1 : decode cL_register 1 = .ok (.iconst 0, 1) := by decide +kernel
theorem dL_register_2 : decode cL_register 2 = .ok (.aload_n 0, 1) := by decide +kernel
theorem dL_register_3 : decode cL_register 3 = .ok (.iload_n 1, 1) := by decide +kernel
theorem dL_register_4 : decode cL_register 4 = .ok (.invokevirtual 7, 3) := by decide +kernel
theorem dL_register_7 : decode cL_register 7 = .ok (.i2l, 1) := by decide +kernel
theorem dL_register_8 : decode cL_register 8 = .ok (.lastore, 1) := by decide +kernel
theorem dL_register_9 : decode cL_register 9 = .ok (.goto 9, 3) := by decide +kernel
theorem dL_register_12 : decode cL_register 12 = .ok (.astore_n 3, 1) := by decide +kernel
theorem dL_register_13 : decode cL_register 13 = .ok (.iconst 1, 1) := by decide +kernel
theorem dL_register_14 : decode cL_register 14 = .ok (.ireturn, 1) := by decide +kernel
theorem dL_register_15 : decode cL_register 15 = .ok (.astore_n 3, 1) := by decide +kernel
theorem dL_register_16 : decode cL_register 16 = .ok (.iconst 2, 1) := by decide +kernel
theorem dL_register_17 : decode cL_register 17 = .ok (.ireturn, 1) := by decide +kernel
theorem dL_register_18 : decode cL_register 18 = .ok (.iconst 0, 1) := by decide +kernel
theorem dL_register_19 : decode cL_register 19 = .ok (.ireturn, 1) := by decide +kernel
set_option maxRecDepth 20000 in
theorem ggL_move_X6_move : GoodIn wsL_move wsX6_move := goodIn_ca (goodIn_ca (goodIn_ca (goodIn_ca (goodIn_r _ [6, 7, 8, 9, 5, 10, 11, 12, 13, 14, 15, 16, 17, 18, 19, 20, 21, 22, 23, 24, 25, 26, 27, 28, 29, 30, 31, 32, 33, 34, 35, 36, 37, 38, 39, 40, 41, 42, 43, 44, 45, 46, 47, 48, 49, 50, 51, 52, 53, 54, 55, 56, 57, 58, 59, 60, 61, 62, 63, 64, 65, 66, 67, 68, 69, 70, 71, 72, 73, 74, 75, 76, 77, 78, 79, 80, 81, 82, 83, 84, 85, 86, 87, 88, 89, 90, 91, 92, 93, 94, 95, 96, 97, 98, 99, 100, 101, 102, 103, 104, 105, 106, 107, 108, 109, 110, 111, 112, 113, 114, 115, 116, 117, 118, 119, 120, 121, 122, 123, 124, 125, 126, 127, 128, 129, 130] (by decide +kernel) (by decide +kernel)) (goodIn_sub (fun _ h => List.mem_cons_of_mem _ (List.mem_append_left _ (List.mem_append_left _ (List.mem_append_left _ (List.mem_append_right _ h))))) (by decide +kernel))) (goodIn_sub (fun _ h => List.mem_cons_of_mem _ (List.mem_append_left _ (List.mem_append_left _ (List.mem_append_right _ h)))) (by decide +kernel))) (goodIn_sub (fun _ h => List.mem_cons_of_mem _ (List.mem_append_left _ (List.mem_append_right _ h))) (by decide +kernel))) (goodIn_sub (fun _ h => List.mem_cons_of_mem _ (List.mem_append_right _ h)) (by decide +kernel))
set_option maxRecDepth 20000 in
theorem gL_move_X6_move : GoodIn wsL_move (wsV RL 17 RX6 yX6_move wsX6_move) := goodIn_app (goodIn_of _ (by decide +kernel)) ggL_move_X6_move
theorem dL_move_0 : decode cL_move 0 = .ok (.aload_n 3, 1) := by decide +kernel
theorem dL_move_1 : decode cL_move 1 = .ok (.iconst 0, 1) := by decide +kernel
theorem dL_move_2 : decode cL_move 2 = .ok (.aload_n 0, 1) := by decide +kernel
theorem dL_move_3 : decode cL_move 3 = .ok (.iload_n 1, 1) := by decide +kernel
theorem dL_move_4 : decode cL_move 4 = .ok (.iload_n 2, 1) := by decide +kernel
theorem dL_move_5 : decode cL_move 5 = .ok (.invokevirtual 17, 3) := by decide +kernel
theorem dL_move_8 : decode cL_move 8 = .ok (.i2l, 1) := by decide +kernel
theorem dL_move_9 : decode cL_move 9 = .ok (.lastore, 1) := by decide +kernel
theorem dL_move_10 : decode cL_move 10 = .ok (.goto 15, 3) := by decide +kernel
theorem dL_move_13 : decode cL_move 13 = .ok (.astore 4, 2) := by decide +kernel
theorem dL_move_15 : decode cL_move 15 = .ok (.iconst 1, 1) := by decide +kernel
theorem dL_move_16 : decode cL_move 16 = .ok (.ireturn, 1) := by decide +kernel
theorem dL_move_17 : decode cL_move 17 = .ok (.astore 4, 2) := by decide +kernel
theorem dL_move_19 : decode cL_move 19 = .ok (.iconst 2, 1) := by decide +kernel
theorem dL_move_20 : decode cL_move 20 = .ok (.ireturn, 1) := by decide +kernel
theorem dL_move_21 : decode cL_move 21 = .ok (.astore 4, 2) := by decide +kernel
theorem dL_move_23 : decode cL_move 23 = .ok (.iconst 3, 1) := by decide +kernel
theorem dL_move_24 : decode cL_move 24 = .ok (.ireturn, 1) := by decide +kernel
theorem dL_move_25 : decode cL_move 25 = .ok (.iconst 0, 1) := by decide +kernel
theorem dL_move_26 : decode cL_move 26 = .ok (.ireturn, 1) := by decide +kernel
set_option maxRecDepth 20000 in
theorem ggL_setRevoked_X6_setRevoked : GoodIn wsL_setRevoked wsX6_setRevoked := goodIn_ca (goodIn_ca (goodIn_ca (goodIn_ca (goodIn_r _ [6, 7, 8, 9, 5, 10, 11, 12, 13, 14, 15, 16, 17, 18, 19, 20, 21, 22, 23, 24, 25, 26, 27, 28, 29, 30, 31, 32, 33, 34, 35, 36, 37, 38, 39, 40, 41, 42, 43, 44, 45, 46, 47, 48, 49, 50, 51, 52, 53, 54, 55, 56, 57, 58, 59, 60, 61, 62, 63, 64, 65, 66, 67, 68, 69, 70, 71, 72, 73, 74, 75, 76, 77, 78, 79, 80, 81, 82, 83, 84, 85, 86, 87, 88, 89, 90, 91, 92, 93, 94, 95, 96, 97, 98, 99, 100, 101, 102, 103, 104, 105, 106, 107, 108, 109, 110, 111, 112, 113, 114, 115, 116, 117, 118, 119, 120, 121, 122, 123, 124, 125, 126, 127, 128, 129, 130, 131, 132, 133, 134, 135, 136, 137, 138, 139, 140, 141, 142, 143, 144] (by decide +kernel) (by decide +kernel)) (goodIn_sub (fun _ h => List.mem_cons_of_mem _ (List.mem_append_left _ (List.mem_append_left _ (List.mem_append_left _ (List.mem_append_right _ h))))) (by decide +kernel))) (goodIn_sub (fun _ h => List.mem_cons_of_mem _ (List.mem_append_left _ (List.mem_append_left _ (List.mem_append_right _ h)))) (by decide +kernel))) (goodIn_sub (fun _ h => List.mem_cons_of_mem _ (List.mem_append_left _ (List.mem_append_right _ h))) (by decide +kernel))) (goodIn_sub (fun _ h => List.mem_cons_of_mem _ (List.mem_append_right _ h)) (by decide +kernel))
set_option maxRecDepth 20000 in
theorem gL_setRevoked_X6_setRevoked : GoodIn wsL_setRevoked (wsV RL 23 RX6 yX6_setRevoked wsX6_setRevoked) := goodIn_app (goodIn_of _ (by decide +kernel)) ggL_setRevoked_X6_setRevoked
theorem dL_setRevoked_0 : decode cL_setRevoked 0 = .ok (.aload_n 3, 1) := by decide +kernel
theorem dL_setRevoked_1 : decode cL_setRevoked 1 = .ok (.iconst 0, 1) := by decide +kernel
theorem dL_setRevoked_2 : decode cL_setRevoked 2 = .ok (.aload_n 0, 1) := by decide +kernel
theorem dL_setRevoked_3 : decode cL_setRevoked 3 = .ok (.iload_n 1, 1) := by decide +kernel
theorem dL_setRevoked_4 : decode cL_setRevoked 4 = .ok (.iload_n 2, 1) := by decide +kernel
theorem dL_setRevoked_5 : decode cL_setRevoked 5 = .ok (.invokevirtual 23, 3) := by decide +kernel
theorem dL_setRevoked_8 : decode cL_setRevoked 8 = .ok (.i2l, 1) := by decide +kernel
theorem dL_setRevoked_9 : decode cL_setRevoked 9 = .ok (.lastore, 1) := by decide +kernel
theorem dL_setRevoked_10 : decode cL_setRevoked 10 = .ok (.goto 11, 3) := by decide +kernel
theorem dL_setRevoked_13 : decode cL_setRevoked 13 = .ok (.astore 4, 2) := by decide +kernel
theorem dL_setRevoked_15 : decode cL_setRevoked 15 = .ok (.iconst 1, 1) := by decide +kernel
theorem dL_setRevoked_16 : decode cL_setRevoked 16 = .ok (.ireturn, 1) := by decide +kernel
theorem dL_setRevoked_17 : decode cL_setRevoked 17 = .ok (.astore 4, 2) := by decide +kernel
theorem dL_setRevoked_19 : decode cL_setRevoked 19 = .ok (.iconst 2, 1) := by decide +kernel
theorem dL_setRevoked_20 : decode cL_setRevoked 20 = .ok (.ireturn, 1) := by decide +kernel
theorem dL_setRevoked_21 : decode cL_setRevoked 21 = .ok (.iconst 0, 1) := by decide +kernel
theorem dL_setRevoked_22 : decode cL_setRevoked 22 = .ok (.ireturn, 1) := by decide +kernel
set_option maxRecDepth 20000 in
theorem ggL_fieldOf_X6_fieldOf : GoodIn wsL_fieldOf wsX6_fieldOf := goodIn_ca (goodIn_ca (goodIn_r _ [6, 7, 8, 9, 10, 5, 11, 12, 13, 14, 15, 16, 17, 18, 19, 20, 21, 22, 23, 24, 25, 26, 27, 28, 29, 30, 31, 32, 33, 34, 35, 36, 37, 38, 39, 40, 41, 42, 43, 44, 45, 46, 47, 48, 49, 50] (by decide +kernel) (by decide +kernel)) (goodIn_sub (fun _ h => List.mem_cons_of_mem _ (List.mem_append_right _ h)) (by decide +kernel))) (goodIn_sub (fun _ h => List.mem_cons_of_mem _ (List.mem_append_left _ (List.mem_append_right _ h))) (by decide +kernel))
set_option maxRecDepth 20000 in
theorem gL_fieldOf_X6_fieldOf : GoodIn wsL_fieldOf (wsV RL 27 RX6 yX6_fieldOf wsX6_fieldOf) := goodIn_app (goodIn_of _ (by decide +kernel)) ggL_fieldOf_X6_fieldOf
theorem dL_fieldOf_0 : decode cL_fieldOf 0 = .ok (.aload_n 2, 1) := by decide +kernel
theorem dL_fieldOf_1 : decode cL_fieldOf 1 = .ok (.iconst 0, 1) := by decide +kernel
theorem dL_fieldOf_2 : decode cL_fieldOf 2 = .ok (.aload_n 0, 1) := by decide +kernel
theorem dL_fieldOf_3 : decode cL_fieldOf 3 = .ok (.iload_n 1, 1) := by decide +kernel
theorem dL_fieldOf_4 : decode cL_fieldOf 4 = .ok (.invokevirtual 27, 3) := by decide +kernel
theorem dL_fieldOf_7 : decode cL_fieldOf 7 = .ok (.i2l, 1) := by decide +kernel
theorem dL_fieldOf_8 : decode cL_fieldOf 8 = .ok (.lastore, 1) := by decide +kernel
theorem dL_fieldOf_9 : decode cL_fieldOf 9 = .ok (.goto 6, 3) := by decide +kernel
theorem dL_fieldOf_12 : decode cL_fieldOf 12 = .ok (.astore_n 3, 1) := by decide +kernel
theorem dL_fieldOf_13 : decode cL_fieldOf 13 = .ok (.iconst 1, 1) := by decide +kernel
theorem dL_fieldOf_14 : decode cL_fieldOf 14 = .ok (.ireturn, 1) := by decide +kernel
theorem dL_fieldOf_15 : decode cL_fieldOf 15 = .ok (.iconst 0, 1) := by decide +kernel
theorem dL_fieldOf_16 : decode cL_fieldOf 16 = .ok (.ireturn, 1) := by decide +kernel
set_option maxRecDepth 20000 in
theorem ggL_scarecrowOn_X6_scarecrowOn : GoodIn wsL_scarecrowOn wsX6_scarecrowOn := goodIn_ca (goodIn_ca (goodIn_ca (goodIn_r _ [6, 7, 8, 9, 10, 11, 5, 12, 13, 14, 15, 16, 17, 18, 19, 20, 21, 22, 23, 24, 25, 26, 27, 28, 29, 30, 31, 32, 33, 34, 35, 36, 37, 38, 39, 40, 41, 42, 43, 44, 45, 46, 47, 48, 49, 50, 51, 52, 53, 54, 55] (by decide +kernel) (by decide +kernel)) (goodIn_sub (fun _ h => List.mem_cons_of_mem _ (List.mem_append_left _ (List.mem_append_right _ h))) (by decide +kernel))) (goodIn_sub (fun _ h => List.mem_cons_of_mem _ (List.mem_append_right _ h)) (by decide +kernel))) (goodIn_sub (fun _ h => List.mem_cons_of_mem _ (List.mem_append_left _ (List.mem_append_left _ (List.mem_append_right _ h)))) (by decide +kernel))
set_option maxRecDepth 20000 in
theorem gL_scarecrowOn_X6_scarecrowOn : GoodIn wsL_scarecrowOn (wsV RL 30 RX6 yX6_scarecrowOn wsX6_scarecrowOn) := goodIn_app (goodIn_of _ (by decide +kernel)) ggL_scarecrowOn_X6_scarecrowOn
theorem dL_scarecrowOn_0 : decode cL_scarecrowOn 0 = .ok (.aload_n 2, 1) := by decide +kernel
theorem dL_scarecrowOn_1 : decode cL_scarecrowOn 1 = .ok (.iconst 0, 1) := by decide +kernel
theorem dL_scarecrowOn_2 : decode cL_scarecrowOn 2 = .ok (.aload_n 0, 1) := by decide +kernel
theorem dL_scarecrowOn_3 : decode cL_scarecrowOn 3 = .ok (.iload_n 1, 1) := by decide +kernel
theorem dL_scarecrowOn_4 : decode cL_scarecrowOn 4 = .ok (.invokevirtual 30, 3) := by decide +kernel
theorem dL_scarecrowOn_7 : decode cL_scarecrowOn 7 = .ok (.i2l, 1) := by decide +kernel
theorem dL_scarecrowOn_8 : decode cL_scarecrowOn 8 = .ok (.lastore, 1) := by decide +kernel
theorem dL_scarecrowOn_9 : decode cL_scarecrowOn 9 = .ok (.goto 9, 3) := by decide +kernel
theorem dL_scarecrowOn_12 : decode cL_scarecrowOn 12 = .ok (.astore_n 3, 1) := by decide +kernel
theorem dL_scarecrowOn_13 : decode cL_scarecrowOn 13 = .ok (.iconst 1, 1) := by decide +kernel
theorem dL_scarecrowOn_14 : decode cL_scarecrowOn 14 = .ok (.ireturn, 1) := by decide +kernel
theorem dL_scarecrowOn_15 : decode cL_scarecrowOn 15 = .ok (.astore_n 3, 1) := by decide +kernel
theorem dL_scarecrowOn_16 : decode cL_scarecrowOn 16 = .ok (.iconst 2, 1) := by decide +kernel
theorem dL_scarecrowOn_17 : decode cL_scarecrowOn 17 = .ok (.ireturn, 1) := by decide +kernel
theorem dL_scarecrowOn_18 : decode cL_scarecrowOn 18 = .ok (.iconst 0, 1) := by decide +kernel
theorem dL_scarecrowOn_19 : decode cL_scarecrowOn 19 = .ok (.ireturn, 1) := by decide +kernel
set_option maxRecDepth 20000 in
theorem ggL_isRevoked_X6_isRevoked : GoodIn wsL_isRevoked wsX6_isRevoked := goodIn_ca (goodIn_r _ [6, 7, 8, 9, 10, 5, 11, 12, 13, 14, 15, 16, 17, 18, 19, 20, 21, 22, 23, 24, 25, 26, 27, 28, 29, 30, 31, 32, 33, 34, 35, 36, 37, 38, 39, 40, 41, 42, 43, 44, 45, 46] (by decide +kernel) (by decide +kernel)) (goodIn_sub (fun _ h => List.mem_cons_of_mem _ (List.mem_append_right _ h)) (by decide +kernel))
set_option maxRecDepth 20000 in
theorem gL_isRevoked_X6_isRevoked : GoodIn wsL_isRevoked (wsV RL 35 RX6 yX6_isRevoked wsX6_isRevoked) := goodIn_app (goodIn_of _ (by decide +kernel)) ggL_isRevoked_X6_isRevoked
theorem dL_isRevoked_0 : decode cL_isRevoked 0 = .ok (.aload_n 2, 1) := by decide +kernel
theorem dL_isRevoked_1 : decode cL_isRevoked 1 = .ok (.iconst 0, 1) := by decide +kernel
theorem dL_isRevoked_2 : decode cL_isRevoked 2 = .ok (.aload_n 0, 1) := by decide +kernel
theorem dL_isRevoked_3 : decode cL_isRevoked 3 = .ok (.iload_n 1, 1) := by decide +kernel
theorem dL_isRevoked_4 : decode cL_isRevoked 4 = .ok (.invokevirtual 35, 3) := by decide +kernel
theorem dL_isRevoked_7 : decode cL_isRevoked 7 = .ok (.ifCond .eq 7, 3) := by decide +kernel
theorem dL_isRevoked_10 : decode cL_isRevoked 10 = .ok (.lconst 1, 1) := by decide +kernel
theorem dL_isRevoked_11 : decode cL_isRevoked 11 = .ok (.goto 4, 3) := by decide +kernel
theorem dL_isRevoked_14 : decode cL_isRevoked 14 = .ok (.lconst 0, 1) := by decide +kernel
theorem dL_isRevoked_15 : decode cL_isRevoked 15 = .ok (.lastore, 1) := by decide +kernel
theorem dL_isRevoked_16 : decode cL_isRevoked 16 = .ok (.goto 6, 3) := by decide +kernel
theorem dL_isRevoked_19 : decode cL_isRevoked 19 = .ok (.astore_n 3, 1) := by decide +kernel
theorem dL_isRevoked_20 : decode cL_isRevoked 20 = .ok (.iconst 1, 1) := by decide +kernel
theorem dL_isRevoked_21 : decode cL_isRevoked 21 = .ok (.ireturn, 1) := by decide +kernel
theorem dL_isRevoked_22 : decode cL_isRevoked 22 = .ok (.iconst 0, 1) := by decide +kernel
theorem dL_isRevoked_23 : decode cL_isRevoked 23 = .ok (.ireturn, 1) := by decide +kernel
set_option maxRecDepth 20000 in
theorem ggL_isCertified_X6_isCertified : GoodIn wsL_isCertified wsX6_isCertified := goodIn_ca (goodIn_ca (goodIn_r _ [6, 7, 8, 9, 10, 5, 11, 12, 13, 14, 15, 16, 17, 18, 19, 20, 21, 22, 23, 24, 25, 26, 27, 28, 29, 30, 31, 32, 33, 34, 35, 36, 37, 38, 39, 40, 41, 42, 43, 44, 45, 46, 47, 48, 49, 50, 51, 52, 53, 54, 55, 56, 57, 58, 59, 60, 61, 62, 63, 64, 65, 66, 67, 68, 69, 70, 71, 72, 73, 74, 75, 76, 77] (by decide +kernel) (by decide +kernel)) (goodIn_sub (fun _ h => List.mem_cons_of_mem _ (List.mem_append_right _ h)) (by decide +kernel))) (goodIn_sub (fun _ h => List.mem_cons_of_mem _ (List.mem_append_left _ (List.mem_append_right _ h))) (by decide +kernel))
set_option maxRecDepth 20000 in
theorem gL_isCertified_X6_isCertified : GoodIn wsL_isCertified (wsV RL 39 RX6 yX6_isCertified wsX6_isCertified) := goodIn_app (goodIn_of _ (by decide +kernel)) ggL_isCertified_X6_isCertified
theorem dL_isCertified_0 : decode cL_isCertified 0 = .ok (.aload_n 2, 1) := by decide +kernel
theorem dL_isCertified_1 : decode cL_isCertified 1 = .ok (.iconst 0, 1) := by decide +kernel
theorem dL_isCertified_2 : decode cL_isCertified 2 = .ok (.aload_n 0, 1) := by decide +kernel
theorem dL_isCertified_3 : decode cL_isCertified 3 = .ok (.iload_n 1, 1) := by decide +kernel
theorem dL_isCertified_4 : decode cL_isCertified 4 = .ok (.invokevirtual 39, 3) := by decide +kernel
theorem dL_isCertified_7 : decode cL_isCertified 7 = .ok (.ifCond .eq 7, 3) := by decide +kernel
theorem dL_isCertified_10 : decode cL_isCertified 10 = .ok (.lconst 1, 1) := by decide +kernel
theorem dL_isCertified_11 : decode cL_isCertified 11 = .ok (.goto 4, 3) := by decide +kernel
theorem dL_isCertified_14 : decode cL_isCertified 14 = .ok (.lconst 0, 1) := by decide +kernel
theorem dL_isCertified_15 : decode cL_isCertified 15 = .ok (.lastore, 1) := by decide +kernel
theorem dL_isCertified_16 : decode cL_isCertified 16 = .ok (.goto 6, 3) := by decide +kernel
theorem dL_isCertified_19 : decode cL_isCertified 19 = .ok (.astore_n 3, 1) := by decide +kernel
theorem dL_isCertified_20 : decode cL_isCertified 20 = .ok (.iconst 1, 1) := by decide +kernel
theorem dL_isCertified_21 : decode cL_isCertified 21 = .ok (.ireturn, 1) := by decide +kernel
theorem dL_isCertified_22 : decode cL_isCertified 22 = .ok (.iconst 0, 1) := by decide +kernel
theorem dL_isCertified_23 : decode cL_isCertified 23 = .ok (.ireturn, 1) := by decide +kernel
set_option maxRecDepth 20000 in
theorem ggL_isCertifiedByChains_X6_isCertifiedByChains : GoodIn wsL_isCertifiedByChains wsX6_isCertifiedByChains := goodIn_ca (goodIn_ca (goodIn_r _ [6, 7, 8, 9, 10, 5, 11, 12, 13, 14, 15, 16, 17, 18, 19, 20, 21, 22, 23, 24, 25, 26, 27, 28, 29, 30, 31, 32, 33, 34, 35, 36, 37, 38, 39, 40, 41, 42, 43, 44, 45, 46, 47, 48, 49, 50, 51, 52, 53, 54, 55, 56, 57, 58, 59, 60, 61, 62] (by decide +kernel) (by decide +kernel)) (goodIn_sub (fun _ h => List.mem_cons_of_mem _ (List.mem_append_right _ h)) (by decide +kernel))) (goodIn_sub (fun _ h => List.mem_cons_of_mem _ (List.mem_append_left _ (List.mem_append_right _ h))) (by decide +kernel))
set_option maxRecDepth 20000 in
theorem gL_isCertifiedByChains_X6_isCertifiedByChains : GoodIn wsL_isCertifiedByChains (wsV RL 42 RX6 yX6_isCertifiedByChains wsX6_isCertifiedByChains) := goodIn_app (goodIn_of _ (by decide +kernel)) ggL_isCertifiedByChains_X6_isCertifiedByChains
theorem dL_isCertifiedByChains_0 : decode cL_isCertifiedByChains 0 = .ok (.aload_n 2, 1) := by decide +kernel
theorem dL_isCertifiedByChains_1 : decode cL_isCertifiedByChains 1 = .ok (.iconst 0, 1) := by decide +kernel
theorem dL_isCertifiedByChains_2 : decode cL_isCertifiedByChains 2 = .ok (.aload_n 0, 1) := by decide +kernel
theorem dL_isCertifiedByChains_3 : decode cL_isCertifiedByChains 3 = .ok (.iload_n 1, 1) := by decide +kernel
theorem dL_isCertifiedByChains_4 : decode cL_isCertifiedByChains 4 = .ok (.invokevirtual 42, 3) := by decide +kernel
theorem dL_isCertifiedByChains_7 : decode cL_isCertifiedByChains 7 = .ok (.ifCond .eq 7, 3) := by decide +kernel
theorem dL_isCertifiedByChains_10 : decode cL_isCertifiedByChains 10 = .ok (.lconst 1, 1) := by decide +kernel
theorem dL_isCertifiedByChains_11 : decode cL_isCertifiedByChains 11 = .ok (.goto 4, 3) := by decide +kernel
theorem dL_isCertifiedByChains_14 : decode cL_isCertifiedByChains 14 = .ok (.lconst 0, 1) := by decide +kernel
theorem dL_isCertifiedByChains_15 : decode cL_isCertifiedByChains 15 = .ok (.lastore, 1) := by decide +kernel
theorem dL_isCertifiedByChains_16 : decode cL_isCertifiedByChains 16 = .ok (.goto 6, 3) := by decide +kernel
theorem dL_isCertifiedByChains_19 : decode cL_isCertifiedByChains 19 = .ok (.astore_n 3, 1) := by decide +kernel
theorem dL_isCertifiedByChains_20 : decode cL_isCertifiedByChains 20 = .ok (.iconst 1, 1) := by decide +kernel
theorem dL_isCertifiedByChains_21 : decode cL_isCertifiedByChains 21 = .ok (.ireturn, 1) := by decide +kernel
theorem dL_isCertifiedByChains_22 : decode cL_isCertifiedByChains 22 = .ok (.iconst 0, 1) := by decide +kernel
theorem dL_isCertifiedByChains_23 : decode cL_isCertifiedByChains 23 = .ok (.ireturn, 1) := by decide +kernel
set_option maxRecDepth 20000 in
theorem ggL_chainLength_X6_chainLength : GoodIn wsL_chainLength wsX6_chainLength := goodIn_ca (goodIn_ca (goodIn_ca (goodIn_r _ [6, 7, 8, 9, 10, 11, 12, 5, 13, 14, 15, 16, 17, 18, 19, 20, 21, 22, 23, 24, 25, 26, 27, 28, 29, 30, 31, 32, 33, 34, 35, 36, 37, 38, 39, 40, 41, 42, 43, 44, 45, 46, 47, 48, 49, 50, 51, 52, 53, 54, 55, 56, 57, 58, 59, 60, 61, 62, 63, 64, 65, 66, 67, 68, 69, 70, 71, 72, 73, 74] (by decide +kernel) (by decide +kernel)) (goodIn_sub (fun _ h => List.mem_cons_of_mem _ (List.mem_append_left _ (List.mem_append_right _ h))) (by decide +kernel))) (goodIn_sub (fun _ h => List.mem_cons_of_mem _ (List.mem_append_right _ h)) (by decide +kernel))) (goodIn_sub (fun _ h => List.mem_cons_of_mem _ (List.mem_append_left _ (List.mem_append_left _ (List.mem_append_right _ h)))) (by decide +kernel))
set_option maxRecDepth 20000 in
theorem gL_chainLength_X6_chainLength : GoodIn wsL_chainLength (wsV RL 45 RX6 yX6_chainLength wsX6_chainLength) := goodIn_app (goodIn_of _ (by decide +kernel)) ggL_chainLength_X6_chainLength
theorem dL_chainLength_0 : decode cL_chainLength 0 = .ok (.aload_n 2, 1) := by decide +kernel
theorem dL_chainLength_1 : decode cL_chainLength 1 = .ok (.iconst 0, 1) := by decide +kernel
theorem dL_chainLength_2 : decode cL_chainLength 2 = .ok (.aload_n 0, 1) := by decide +kernel
theorem dL_chainLength_3 : decode cL_chainLength 3 = .ok (.iload_n 1, 1) := by decide +kernel
theorem dL_chainLength_4 : decode cL_chainLength 4 = .ok (.invokevirtual 45, 3) := by decide +kernel
theorem dL_chainLength_7 : decode cL_chainLength 7 = .ok (.i2l, 1) := by decide +kernel
theorem dL_chainLength_8 : decode cL_chainLength 8 = .ok (.lastore, 1) := by decide +kernel
theorem dL_chainLength_9 : decode cL_chainLength 9 = .ok (.goto 9, 3) := by decide +kernel
theorem dL_chainLength_12 : decode cL_chainLength 12 = .ok (.astore_n 3, 1) := by decide +kernel
theorem dL_chainLength_13 : decode cL_chainLength 13 = .ok (.iconst 1, 1) := by decide +kernel
theorem dL_chainLength_14 : decode cL_chainLength 14 = .ok (.ireturn, 1) := by decide +kernel
theorem dL_chainLength_15 : decode cL_chainLength 15 = .ok (.astore_n 3, 1) := by decide +kernel
theorem dL_chainLength_16 : decode cL_chainLength 16 = .ok (.iconst 2, 1) := by decide +kernel
theorem dL_chainLength_17 : decode cL_chainLength 17 = .ok (.ireturn, 1) := by decide +kernel
theorem dL_chainLength_18 : decode cL_chainLength 18 = .ok (.iconst 0, 1) := by decide +kernel
theorem dL_chainLength_19 : decode cL_chainLength 19 = .ok (.ireturn, 1) := by decide +kernel
set_option maxRecDepth 20000 in
theorem ggL_daysUntilUncertified_X6_daysUntilUncertified : GoodIn wsL_daysUntilUncertified wsX6_daysUntilUncertified := goodIn_ca (goodIn_ca (goodIn_r _ [6, 7, 8, 9, 10, 5, 11, 12, 13, 14, 15, 16, 17, 18, 19, 20, 21, 22, 23, 24, 25, 26, 27, 28, 29, 30, 31, 32, 33, 34, 35, 36, 37, 38, 39, 40, 41, 42, 43, 44, 45, 46, 47, 48, 49, 50, 51, 52, 53, 54, 55, 56, 57, 58, 59, 60, 61, 62, 63, 64, 65, 66, 67, 68, 69, 70, 71, 72] (by decide +kernel) (by decide +kernel)) (goodIn_sub (fun _ h => List.mem_cons_of_mem _ (List.mem_append_right _ h)) (by decide +kernel))) (goodIn_sub (fun _ h => List.mem_cons_of_mem _ (List.mem_append_left _ (List.mem_append_right _ h))) (by decide +kernel))
set_option maxRecDepth 20000 in
theorem gL_daysUntilUncertified_X6_daysUntilUncertified : GoodIn wsL_daysUntilUncertified (wsV RL 48 RX6 yX6_daysUntilUncertified wsX6_daysUntilUncertified) := goodIn_app (goodIn_of _ (by decide +kernel)) ggL_daysUntilUncertified_X6_daysUntilUncertified
theorem dL_daysUntilUncertified_0 : decode cL_daysUntilUncertified 0 = .ok (.aload_n 2, 1) := by decide +kernel
theorem dL_daysUntilUncertified_1 : decode cL_daysUntilUncertified 1 = .ok (.iconst 0, 1) := by decide +kernel
theorem dL_daysUntilUncertified_2 : decode cL_daysUntilUncertified 2 = .ok (.aload_n 0, 1) := by decide +kernel
theorem dL_daysUntilUncertified_3 : decode cL_daysUntilUncertified 3 = .ok (.iload_n 1, 1) := by decide +kernel
theorem dL_daysUntilUncertified_4 : decode cL_daysUntilUncertified 4 = .ok (.invokevirtual 48, 3) := by decide +kernel
theorem dL_daysUntilUncertified_7 : decode cL_daysUntilUncertified 7 = .ok (.i2l, 1) := by decide +kernel
theorem dL_daysUntilUncertified_8 : decode cL_daysUntilUncertified 8 = .ok (.lastore, 1) := by decide +kernel
theorem dL_daysUntilUncertified_9 : decode cL_daysUntilUncertified 9 = .ok (.goto 6, 3) := by decide +kernel
theorem dL_daysUntilUncertified_12 : decode cL_daysUntilUncertified 12 = .ok (.astore_n 3, 1) := by decide +kernel
theorem dL_daysUntilUncertified_13 : decode cL_daysUntilUncertified 13 = .ok (.iconst 1, 1) := by decide +kernel
theorem dL_daysUntilUncertified_14 : decode cL_daysUntilUncertified 14 = .ok (.ireturn, 1) := by decide +kernel
theorem dL_daysUntilUncertified_15 : decode cL_daysUntilUncertified 15 = .ok (.iconst 0, 1) := by decide +kernel
theorem dL_daysUntilUncertified_16 : decode cL_daysUntilUncertified 16 = .ok (.ireturn, 1) := by decide +kernel
set_option maxRecDepth 20000 in
theorem ggL_scarecrowByCertificates_X6_scarecrowByCertificates : GoodIn wsL_scarecrowByCertificates wsX6_scarecrowByCertificates := goodIn_ca (goodIn_ca (goodIn_r _ [6, 7, 8, 9, 10, 11, 12, 13, 14, 15, 16, 17, 18, 19, 20, 21, 22, 23, 24, 25, 26, 27, 28, 29, 30, 31, 32, 33, 34, 35, 36, 37, 38, 39, 40, 41, 5, 42, 43, 44, 45, 46, 47, 48, 49, 50, 51, 52, 53, 54, 55, 56, 57, 58, 59, 60, 61, 62, 63, 64, 65, 66, 67, 68, 69, 70, 71, 72, 73, 74, 75, 76, 77, 78, 79, 80] (by decide +kernel) (by decide +kernel)) (goodIn_sub (fun _ h => List.mem_cons_of_mem _ (List.mem_append_right _ h)) (by decide +kernel))) (goodIn_sub (fun _ h => List.mem_cons_of_mem _ (List.mem_append_left _ (List.mem_append_right _ h))) (by decide +kernel))
set_option maxRecDepth 20000 in
theorem gL_scarecrowByCertificates_X6_scarecrowByCertificates : GoodIn wsL_scarecrowByCertificates (wsV RL 51 RX6 yX6_scarecrowByCertificates wsX6_scarecrowByCertificates) := goodIn_app (goodIn_of _ (by decide +kernel)) ggL_scarecrowByCertificates_X6_scarecrowByCertificates
theorem dL_scarecrowByCertificates_0 : decode cL_scarecrowByCertificates 0 = .ok (.aload_n 2, 1) := by decide +kernel
theorem dL_scarecrowByCertificates_1 : decode cL_scarecrowByCertificates 1 = .ok (.iconst 0, 1) := by decide +kernel
theorem dL_scarecrowByCertificates_2 : decode cL_scarecrowByCertificates 2 = .ok (.aload_n 0, 1) := by decide +kernel
theorem dL_scarecrowByCertificates_3 : decode cL_scarecrowByCertificates 3 = .ok (.iload_n 1, 1) := by decide +kernel
theorem dL_scarecrowByCertificates_4 : decode cL_scarecrowByCertificates 4 = .ok (.invokevirtual 51, 3) := by decide +kernel
theorem dL_scarecrowByCertificates_7 : decode cL_scarecrowByCertificates 7 = .ok (.i2l, 1) := by decide +kernel
theorem dL_scarecrowByCertificates_8 : decode cL_scarecrowByCertificates 8 = .ok (.lastore, 1) := by decide +kernel
theorem dL_scarecrowByCertificates_9 : decode cL_scarecrowByCertificates 9 = .ok (.goto 6, 3) := by decide +kernel
theorem dL_scarecrowByCertificates_12 : decode cL_scarecrowByCertificates 12 = .ok (.astore_n 3, 1) := by decide +kernel
theorem dL_scarecrowByCertificates_13 : decode cL_scarecrowByCertificates 13 = .ok (.iconst 1, 1) := by decide +kernel
theorem dL_scarecrowByCertificates_14 : decode cL_scarecrowByCertificates 14 = .ok (.ireturn, 1) := by decide +kernel
theorem dL_scarecrowByCertificates_15 : decode cL_scarecrowByCertificates 15 = .ok (.iconst 0, 1) := by decide +kernel
theorem dL_scarecrowByCertificates_16 : decode cL_scarecrowByCertificates 16 = .ok (.ireturn, 1) := by decide +kernel
set_option maxRecDepth 20000 in
theorem ggL_issueByRegistry_X6_issueByRegistry : GoodIn wsL_issueByRegistry wsX6_issueByRegistry := goodIn_ca (goodIn_ca (goodIn_ca (goodIn_ca (goodIn_r _ [6, 7, 8, 9, 5, 10, 11, 12, 13, 14, 15, 16, 17, 18, 19, 20, 21, 22, 23, 24, 25, 26, 27, 28, 29, 30, 31, 32, 33, 34, 35, 36, 37, 38, 39, 40, 41, 42, 43, 44, 45, 46, 47, 48, 49, 50, 51, 52, 53, 54, 55, 56, 57, 58, 59, 60, 61, 62, 63, 64, 65, 66, 67, 68, 69, 70, 71, 72, 73, 74, 75, 76, 77, 78, 79, 80, 81, 82, 83, 84, 85, 86, 87, 88, 89, 90, 91, 92, 93, 94, 95, 96, 97, 98, 99, 100, 101, 102, 103, 104, 105, 106, 107, 108, 109, 110, 111, 112, 113, 114, 115, 116, 117, 118, 119, 120, 121, 122, 123, 124, 125, 126, 127, 128, 129] (by decide +kernel) (by decide +kernel)) (goodIn_sub (fun _ h => List.mem_cons_of_mem _ (List.mem_append_left _ (List.mem_append_left _ (List.mem_append_left _ (List.mem_append_right _ h))))) (by decide +kernel))) (goodIn_sub (fun _ h => List.mem_cons_of_mem _ (List.mem_append_left _ (List.mem_append_left _ (List.mem_append_right _ h)))) (by decide +kernel))) (goodIn_sub (fun _ h => List.mem_cons_of_mem _ (List.mem_append_left _ (List.mem_append_right _ h))) (by decide +kernel))) (goodIn_sub (fun _ h => List.mem_cons_of_mem _ (List.mem_append_right _ h)) (by decide +kernel))
set_option maxRecDepth 20000 in
theorem gL_issueByRegistry_X6_issueByRegistry : GoodIn wsL_issueByRegistry (wsV RL 54 RX6 yX6_issueByRegistry wsX6_issueByRegistry) := goodIn_app (goodIn_of _ (by decide +kernel)) ggL_issueByRegistry_X6_issueByRegistry
theorem dL_issueByRegistry_0 : decode cL_issueByRegistry 0 = .ok (.aload_n 3, 1) := by decide +kernel
theorem dL_issueByRegistry_1 : decode cL_issueByRegistry 1 = .ok (.iconst 0, 1) := by decide +kernel
theorem dL_issueByRegistry_2 : decode cL_issueByRegistry 2 = .ok (.aload_n 0, 1) := by decide +kernel
theorem dL_issueByRegistry_3 : decode cL_issueByRegistry 3 = .ok (.iload_n 1, 1) := by decide +kernel
theorem dL_issueByRegistry_4 : decode cL_issueByRegistry 4 = .ok (.iload_n 2, 1) := by decide +kernel
theorem dL_issueByRegistry_5 : decode cL_issueByRegistry 5 = .ok (.invokevirtual 54, 3) := by decide +kernel
theorem dL_issueByRegistry_8 : decode cL_issueByRegistry 8 = .ok (.i2l, 1) := by decide +kernel
theorem dL_issueByRegistry_9 : decode cL_issueByRegistry 9 = .ok (.lastore, 1) := by decide +kernel
theorem dL_issueByRegistry_10 : decode cL_issueByRegistry 10 = .ok (.goto 15, 3) := by decide +kernel
theorem dL_issueByRegistry_13 : decode cL_issueByRegistry 13 = .ok (.astore 4, 2) := by decide +kernel
theorem dL_issueByRegistry_15 : decode cL_issueByRegistry 15 = .ok (.iconst 1, 1) := by decide +kernel
theorem dL_issueByRegistry_16 : decode cL_issueByRegistry 16 = .ok (.ireturn, 1) := by decide +kernel
theorem dL_issueByRegistry_17 : decode cL_issueByRegistry 17 = .ok (.astore 4, 2) := by decide +kernel
theorem dL_issueByRegistry_19 : decode cL_issueByRegistry 19 = .ok (.iconst 2, 1) := by decide +kernel
theorem dL_issueByRegistry_20 : decode cL_issueByRegistry 20 = .ok (.ireturn, 1) := by decide +kernel
theorem dL_issueByRegistry_21 : decode cL_issueByRegistry 21 = .ok (.astore 4, 2) := by decide +kernel
theorem dL_issueByRegistry_23 : decode cL_issueByRegistry 23 = .ok (.iconst 3, 1) := by decide +kernel
theorem dL_issueByRegistry_24 : decode cL_issueByRegistry 24 = .ok (.ireturn, 1) := by decide +kernel
theorem dL_issueByRegistry_25 : decode cL_issueByRegistry 25 = .ok (.iconst 0, 1) := by decide +kernel
theorem dL_issueByRegistry_26 : decode cL_issueByRegistry 26 = .ok (.ireturn, 1) := by decide +kernel
set_option maxRecDepth 20000 in
theorem ggL_issue_X6_issue : GoodIn wsL_issue wsX6_issue := goodIn_ca (goodIn_ca (goodIn_ca (goodIn_ca (goodIn_r _ [6, 7, 8, 9, 5, 10, 11, 12, 13, 14, 15, 16, 17, 18, 19, 20, 21, 22, 23, 24, 25, 26, 27, 28, 29, 30, 31, 32, 33, 34, 35, 36, 37, 38, 39, 40, 41, 42, 43, 44, 45, 46, 47, 48, 49, 50, 51, 52, 53, 54, 55, 56, 57, 58, 59, 60, 61, 62, 63, 64, 65, 66, 67, 68, 69, 70, 71, 72, 73, 74, 75, 76, 77, 78, 79, 80, 81, 82, 83, 84, 85, 86, 87, 88, 89, 90, 91, 92, 93, 94, 95, 96, 97, 98, 99, 100, 101, 102, 103, 104, 105, 106, 107, 108, 109, 110, 111, 112, 113, 114, 115, 116, 117, 118, 119, 120, 121, 122, 123, 124, 125, 126, 127, 128, 129, 130, 131, 132, 133, 134, 135, 136, 137, 138, 139, 140, 141, 142, 143, 144, 145, 146, 147, 148] (by decide +kernel) (by decide +kernel)) (goodIn_sub (fun _ h => List.mem_cons_of_mem _ (List.mem_append_left _ (List.mem_append_left _ (List.mem_append_left _ (List.mem_append_right _ h))))) (by decide +kernel))) (goodIn_sub (fun _ h => List.mem_cons_of_mem _ (List.mem_append_left _ (List.mem_append_left _ (List.mem_append_right _ h)))) (by decide +kernel))) (goodIn_sub (fun _ h => List.mem_cons_of_mem _ (List.mem_append_left _ (List.mem_append_right _ h))) (by decide +kernel))) (goodIn_sub (fun _ h => List.mem_cons_of_mem _ (List.mem_append_right _ h)) (by decide +kernel))
set_option maxRecDepth 20000 in
theorem gL_issue_X6_issue : GoodIn wsL_issue (wsV RL 57 RX6 yX6_issue wsX6_issue) := goodIn_app (goodIn_of _ (by decide +kernel)) ggL_issue_X6_issue
theorem dL_issue_0 : decode cL_issue 0 = .ok (.aload 4, 2) := by decide +kernel
theorem dL_issue_2 : decode cL_issue 2 = .ok (.iconst 0, 1) := by decide +kernel
theorem dL_issue_3 : decode cL_issue 3 = .ok (.aload_n 0, 1) := by decide +kernel
theorem dL_issue_4 : decode cL_issue 4 = .ok (.iload_n 1, 1) := by decide +kernel
theorem dL_issue_5 : decode cL_issue 5 = .ok (.iload_n 2, 1) := by decide +kernel
theorem dL_issue_6 : decode cL_issue 6 = .ok (.iload_n 3, 1) := by decide +kernel
theorem dL_issue_7 : decode cL_issue 7 = .ok (.invokevirtual 57, 3) := by decide +kernel
theorem dL_issue_10 : decode cL_issue 10 = .ok (.i2l, 1) := by decide +kernel
theorem dL_issue_11 : decode cL_issue 11 = .ok (.lastore, 1) := by decide +kernel
theorem dL_issue_12 : decode cL_issue 12 = .ok (.goto 15, 3) := by decide +kernel
theorem dL_issue_15 : decode cL_issue 15 = .ok (.astore 5, 2) := by decide +kernel
theorem dL_issue_17 : decode cL_issue 17 = .ok (.iconst 1, 1) := by decide +kernel
theorem dL_issue_18 : decode cL_issue 18 = .ok (.ireturn, 1) := by decide +kernel
theorem dL_issue_19 : decode cL_issue 19 = .ok (.astore 5, 2) := by decide +kernel
theorem dL_issue_21 : decode cL_issue 21 = .ok (.iconst 2, 1) := by decide +kernel
theorem dL_issue_22 : decode cL_issue 22 = .ok (.ireturn, 1) := by decide +kernel
theorem dL_issue_23 : decode cL_issue 23 = .ok (.astore 5, 2) := by decide +kernel
theorem dL_issue_25 : decode cL_issue 25 = .ok (.iconst 3, 1) := by decide +kernel
theorem dL_issue_26 : decode cL_issue 26 = .ok (.ireturn, 1) := by decide +kernel
theorem dL_issue_27 : decode cL_issue 27 = .ok (.iconst 0, 1) := by decide +kernel
theorem dL_issue_28 : decode cL_issue 28 = .ok (.ireturn, 1) := by decide +kernel
set_option maxRecDepth 20000 in
theorem ggL_withdraw_X6_withdraw : GoodIn wsL_withdraw wsX6_withdraw := goodIn_ca (goodIn_ca (goodIn_ca (goodIn_ca (goodIn_r _ [6, 7, 8, 9, 5, 10, 11, 12, 13, 14, 15, 16, 17, 18, 19, 20, 21, 22, 23, 24, 25, 26, 27, 28, 29, 30, 31, 32, 33, 34, 35, 36, 37, 38, 39, 40, 41, 42, 43, 44, 45, 46, 47, 48, 49, 50, 51, 52, 53, 54, 55, 56, 57, 58, 59, 60, 61, 62, 63, 64, 65, 66, 67, 68, 69, 70, 71, 72, 73, 74, 75, 76, 77, 78, 79, 80, 81, 82, 83, 84, 85, 86, 87, 88, 89, 90, 91, 92, 93, 94, 95, 96, 97, 98, 99, 100, 101, 102, 103, 104, 105, 106, 107, 108, 109, 110, 111, 112, 113, 114, 115, 116, 117, 118, 119] (by decide +kernel) (by decide +kernel)) (goodIn_sub (fun _ h => List.mem_cons_of_mem _ (List.mem_append_left _ (List.mem_append_left _ (List.mem_append_left _ (List.mem_append_right _ h))))) (by decide +kernel))) (goodIn_sub (fun _ h => List.mem_cons_of_mem _ (List.mem_append_left _ (List.mem_append_left _ (List.mem_append_right _ h)))) (by decide +kernel))) (goodIn_sub (fun _ h => List.mem_cons_of_mem _ (List.mem_append_left _ (List.mem_append_right _ h))) (by decide +kernel))) (goodIn_sub (fun _ h => List.mem_cons_of_mem _ (List.mem_append_right _ h)) (by decide +kernel))
set_option maxRecDepth 20000 in
theorem gL_withdraw_X6_withdraw : GoodIn wsL_withdraw (wsV RL 61 RX6 yX6_withdraw wsX6_withdraw) := goodIn_app (goodIn_of _ (by decide +kernel)) ggL_withdraw_X6_withdraw
theorem dL_withdraw_0 : decode cL_withdraw 0 = .ok (.aload_n 2, 1) := by decide +kernel
theorem dL_withdraw_1 : decode cL_withdraw 1 = .ok (.iconst 0, 1) := by decide +kernel
theorem dL_withdraw_2 : decode cL_withdraw 2 = .ok (.aload_n 0, 1) := by decide +kernel
theorem dL_withdraw_3 : decode cL_withdraw 3 = .ok (.iload_n 1, 1) := by decide +kernel
theorem dL_withdraw_4 : decode cL_withdraw 4 = .ok (.invokevirtual 61, 3) := by decide +kernel
theorem dL_withdraw_7 : decode cL_withdraw 7 = .ok (.i2l, 1) := by decide +kernel
theorem dL_withdraw_8 : decode cL_withdraw 8 = .ok (.lastore, 1) := by decide +kernel
theorem dL_withdraw_9 : decode cL_withdraw 9 = .ok (.goto 6, 3) := by decide +kernel
theorem dL_withdraw_12 : decode cL_withdraw 12 = .ok (.astore_n 3, 1) := by decide +kernel
theorem dL_withdraw_13 : decode cL_withdraw 13 = .ok (.iconst 1, 1) := by decide +kernel
theorem dL_withdraw_14 : decode cL_withdraw 14 = .ok (.ireturn, 1) := by decide +kernel
theorem dL_withdraw_15 : decode cL_withdraw 15 = .ok (.iconst 0, 1) := by decide +kernel
theorem dL_withdraw_16 : decode cL_withdraw 16 = .ok (.ireturn, 1) := by decide +kernel
set_option maxRecDepth 20000 in
theorem ggL_isByRegistry_X6_isByRegistry : GoodIn wsL_isByRegistry wsX6_isByRegistry := goodIn_ca (goodIn_ca (goodIn_r _ [6, 7, 8, 9, 10, 5, 11, 12, 13, 14, 15, 16, 17, 18, 19, 20, 21, 22, 23, 24, 25, 26, 27, 28, 29, 30, 31, 32, 33, 34, 35, 36, 37, 38, 39, 40, 41, 42, 43, 44, 45, 46, 47, 48, 49, 50] (by decide +kernel) (by decide +kernel)) (goodIn_sub (fun _ h => List.mem_cons_of_mem _ (List.mem_append_right _ h)) (by decide +kernel))) (goodIn_sub (fun _ h => List.mem_cons_of_mem _ (List.mem_append_left _ (List.mem_append_right _ h))) (by decide +kernel))
set_option maxRecDepth 20000 in
theorem gL_isByRegistry_X6_isByRegistry : GoodIn wsL_isByRegistry (wsV RL 64 RX6 yX6_isByRegistry wsX6_isByRegistry) := goodIn_app (goodIn_of _ (by decide +kernel)) ggL_isByRegistry_X6_isByRegistry
theorem dL_isByRegistry_0 : decode cL_isByRegistry 0 = .ok (.aload_n 2, 1) := by decide +kernel
theorem dL_isByRegistry_1 : decode cL_isByRegistry 1 = .ok (.iconst 0, 1) := by decide +kernel
theorem dL_isByRegistry_2 : decode cL_isByRegistry 2 = .ok (.aload_n 0, 1) := by decide +kernel
theorem dL_isByRegistry_3 : decode cL_isByRegistry 3 = .ok (.iload_n 1, 1) := by decide +kernel
theorem dL_isByRegistry_4 : decode cL_isByRegistry 4 = .ok (.invokevirtual 64, 3) := by decide +kernel
theorem dL_isByRegistry_7 : decode cL_isByRegistry 7 = .ok (.ifCond .eq 7, 3) := by decide +kernel
theorem dL_isByRegistry_10 : decode cL_isByRegistry 10 = .ok (.lconst 1, 1) := by decide +kernel
theorem dL_isByRegistry_11 : decode cL_isByRegistry 11 = .ok (.goto 4, 3) := by decide +kernel
theorem dL_isByRegistry_14 : decode cL_isByRegistry 14 = .ok (.lconst 0, 1) := by decide +kernel
theorem dL_isByRegistry_15 : decode cL_isByRegistry 15 = .ok (.lastore, 1) := by decide +kernel
theorem dL_isByRegistry_16 : decode cL_isByRegistry 16 = .ok (.goto 6, 3) := by decide +kernel
theorem dL_isByRegistry_19 : decode cL_isByRegistry 19 = .ok (.astore_n 3, 1) := by decide +kernel
theorem dL_isByRegistry_20 : decode cL_isByRegistry 20 = .ok (.iconst 1, 1) := by decide +kernel
theorem dL_isByRegistry_21 : decode cL_isByRegistry 21 = .ok (.ireturn, 1) := by decide +kernel
theorem dL_isByRegistry_22 : decode cL_isByRegistry 22 = .ok (.iconst 0, 1) := by decide +kernel
theorem dL_isByRegistry_23 : decode cL_isByRegistry 23 = .ok (.ireturn, 1) := by decide +kernel
set_option maxRecDepth 20000 in
theorem ggL_issuerOf_X6_issuerOf : GoodIn wsL_issuerOf wsX6_issuerOf := goodIn_ca (goodIn_ca (goodIn_ca (goodIn_r _ [6, 7, 8, 9, 10, 11, 12, 5, 13, 14, 15, 16, 17, 18, 19, 20, 21, 22, 23, 24, 25, 26, 27, 28, 29, 30, 31, 32, 33, 34, 35, 36, 37, 38, 39, 40, 41, 42, 43, 44, 45, 46, 47, 48, 49, 50, 51, 52] (by decide +kernel) (by decide +kernel)) (goodIn_sub (fun _ h => List.mem_cons_of_mem _ (List.mem_append_left _ (List.mem_append_right _ h))) (by decide +kernel))) (goodIn_sub (fun _ h => List.mem_cons_of_mem _ (List.mem_append_right _ h)) (by decide +kernel))) (goodIn_sub (fun _ h => List.mem_cons_of_mem _ (List.mem_append_left _ (List.mem_append_left _ (List.mem_append_right _ h)))) (by decide +kernel))
set_option maxRecDepth 20000 in
theorem gL_issuerOf_X6_issuerOf : GoodIn wsL_issuerOf (wsV RL 67 RX6 yX6_issuerOf wsX6_issuerOf) := goodIn_app (goodIn_of _ (by decide +kernel)) ggL_issuerOf_X6_issuerOf
theorem dL_issuerOf_0 : decode cL_issuerOf 0 = .ok (.aload_n 2, 1) := by decide +kernel
theorem dL_issuerOf_1 : decode cL_issuerOf 1 = .ok (.iconst 0, 1) := by decide +kernel
theorem dL_issuerOf_2 : decode cL_issuerOf 2 = .ok (.aload_n 0, 1) := by decide +kernel
theorem dL_issuerOf_3 : decode cL_issuerOf 3 = .ok (.iload_n 1, 1) := by decide +kernel
theorem dL_issuerOf_4 : decode cL_issuerOf 4 = .ok (.invokevirtual 67, 3) := by decide +kernel
theorem dL_issuerOf_7 : decode cL_issuerOf 7 = .ok (.i2l, 1) := by decide +kernel
theorem dL_issuerOf_8 : decode cL_issuerOf 8 = .ok (.lastore, 1) := by decide +kernel
theorem dL_issuerOf_9 : decode cL_issuerOf 9 = .ok (.goto 9, 3) := by decide +kernel
theorem dL_issuerOf_12 : decode cL_issuerOf 12 = .ok (.astore_n 3, 1) := by decide +kernel
theorem dL_issuerOf_13 : decode cL_issuerOf 13 = .ok (.iconst 1, 1) := by decide +kernel
theorem dL_issuerOf_14 : decode cL_issuerOf 14 = .ok (.ireturn, 1) := by decide +kernel
theorem dL_issuerOf_15 : decode cL_issuerOf 15 = .ok (.astore_n 3, 1) := by decide +kernel
theorem dL_issuerOf_16 : decode cL_issuerOf 16 = .ok (.iconst 2, 1) := by decide +kernel
theorem dL_issuerOf_17 : decode cL_issuerOf 17 = .ok (.ireturn, 1) := by decide +kernel
theorem dL_issuerOf_18 : decode cL_issuerOf 18 = .ok (.iconst 0, 1) := by decide +kernel
theorem dL_issuerOf_19 : decode cL_issuerOf 19 = .ok (.ireturn, 1) := by decide +kernel
set_option maxRecDepth 20000 in
theorem ggL_subjectOf_X6_subjectOf : GoodIn wsL_subjectOf wsX6_subjectOf := goodIn_ca (goodIn_ca (goodIn_r _ [6, 7, 8, 9, 10, 5, 11, 12, 13, 14, 15, 16, 17, 18, 19, 20, 21, 22, 23, 24, 25, 26, 27, 28, 29, 30, 31, 32, 33, 34, 35, 36, 37, 38, 39, 40, 41, 42, 43, 44, 45, 46, 47, 48, 49, 50] (by decide +kernel) (by decide +kernel)) (goodIn_sub (fun _ h => List.mem_cons_of_mem _ (List.mem_append_right _ h)) (by decide +kernel))) (goodIn_sub (fun _ h => List.mem_cons_of_mem _ (List.mem_append_left _ (List.mem_append_right _ h))) (by decide +kernel))
set_option maxRecDepth 20000 in
theorem gL_subjectOf_X6_subjectOf : GoodIn wsL_subjectOf (wsV RL 70 RX6 yX6_subjectOf wsX6_subjectOf) := goodIn_app (goodIn_of _ (by decide +kernel)) ggL_subjectOf_X6_subjectOf
theorem dL_subjectOf_0 : decode cL_subjectOf 0 = .ok (.aload_n 2, 1) := by decide +kernel
theorem dL_subjectOf_1 : decode cL_subjectOf 1 = .ok (.iconst 0, 1) := by decide +kernel
theorem dL_subjectOf_2 : decode cL_subjectOf 2 = .ok (.aload_n 0, 1) := by decide +kernel
theorem dL_subjectOf_3 : decode cL_subjectOf 3 = .ok (.iload_n 1, 1) := by decide +kernel
theorem dL_subjectOf_4 : decode cL_subjectOf 4 = .ok (.invokevirtual 70, 3) := by decide +kernel
theorem dL_subjectOf_7 : decode cL_subjectOf 7 = .ok (.i2l, 1) := by decide +kernel
theorem dL_subjectOf_8 : decode cL_subjectOf 8 = .ok (.lastore, 1) := by decide +kernel
theorem dL_subjectOf_9 : decode cL_subjectOf 9 = .ok (.goto 6, 3) := by decide +kernel
theorem dL_subjectOf_12 : decode cL_subjectOf 12 = .ok (.astore_n 3, 1) := by decide +kernel
theorem dL_subjectOf_13 : decode cL_subjectOf 13 = .ok (.iconst 1, 1) := by decide +kernel
theorem dL_subjectOf_14 : decode cL_subjectOf 14 = .ok (.ireturn, 1) := by decide +kernel
theorem dL_subjectOf_15 : decode cL_subjectOf 15 = .ok (.iconst 0, 1) := by decide +kernel
theorem dL_subjectOf_16 : decode cL_subjectOf 16 = .ok (.ireturn, 1) := by decide +kernel
set_option maxRecDepth 20000 in
theorem ggL_addressOf_X6_addressOf : GoodIn wsL_addressOf wsX6_addressOf := goodIn_ca (goodIn_ca (goodIn_r _ [6, 7, 8, 9, 10, 5, 11, 12, 13, 14, 15, 16, 17, 18, 19, 20, 21, 22, 23, 24, 25, 26, 27, 28, 29, 30, 31, 32, 33, 34, 35, 36, 37, 38, 39, 40, 41, 42, 43, 44, 45, 46, 47, 48, 49, 50] (by decide +kernel) (by decide +kernel)) (goodIn_sub (fun _ h => List.mem_cons_of_mem _ (List.mem_append_right _ h)) (by decide +kernel))) (goodIn_sub (fun _ h => List.mem_cons_of_mem _ (List.mem_append_left _ (List.mem_append_right _ h))) (by decide +kernel))
set_option maxRecDepth 20000 in
theorem gL_addressOf_X6_addressOf : GoodIn wsL_addressOf (wsV RL 73 RX6 yX6_addressOf wsX6_addressOf) := goodIn_app (goodIn_of _ (by decide +kernel)) ggL_addressOf_X6_addressOf
theorem dL_addressOf_0 : decode cL_addressOf 0 = .ok (.aload_n 2, 1) := by decide +kernel
theorem dL_addressOf_1 : decode cL_addressOf 1 = .ok (.iconst 0, 1) := by decide +kernel
theorem dL_addressOf_2 : decode cL_addressOf 2 = .ok (.aload_n 0, 1) := by decide +kernel
theorem dL_addressOf_3 : decode cL_addressOf 3 = .ok (.iload_n 1, 1) := by decide +kernel
theorem dL_addressOf_4 : decode cL_addressOf 4 = .ok (.invokevirtual 73, 3) := by decide +kernel
theorem dL_addressOf_7 : decode cL_addressOf 7 = .ok (.i2l, 1) := by decide +kernel
theorem dL_addressOf_8 : decode cL_addressOf 8 = .ok (.lastore, 1) := by decide +kernel
theorem dL_addressOf_9 : decode cL_addressOf 9 = .ok (.goto 6, 3) := by decide +kernel
theorem dL_addressOf_12 : decode cL_addressOf 12 = .ok (.astore_n 3, 1) := by decide +kernel
theorem dL_addressOf_13 : decode cL_addressOf 13 = .ok (.iconst 1, 1) := by decide +kernel
theorem dL_addressOf_14 : decode cL_addressOf 14 = .ok (.ireturn, 1) := by decide +kernel
theorem dL_addressOf_15 : decode cL_addressOf 15 = .ok (.iconst 0, 1) := by decide +kernel
theorem dL_addressOf_16 : decode cL_addressOf 16 = .ok (.ireturn, 1) := by decide +kernel
set_option maxRecDepth 20000 in
theorem ggL_lastDayOf_X6_lastDayOf : GoodIn wsL_lastDayOf wsX6_lastDayOf := goodIn_ca (goodIn_ca (goodIn_r _ [6, 7, 8, 9, 10, 5, 11, 12, 13, 14, 15, 16, 17, 18, 19, 20, 21, 22, 23, 24, 25, 26, 27, 28, 29, 30, 31, 32, 33, 34, 35, 36, 37, 38, 39, 40, 41, 42, 43, 44, 45, 46, 47, 48, 49, 50] (by decide +kernel) (by decide +kernel)) (goodIn_sub (fun _ h => List.mem_cons_of_mem _ (List.mem_append_right _ h)) (by decide +kernel))) (goodIn_sub (fun _ h => List.mem_cons_of_mem _ (List.mem_append_left _ (List.mem_append_right _ h))) (by decide +kernel))
set_option maxRecDepth 20000 in
theorem gL_lastDayOf_X6_lastDayOf : GoodIn wsL_lastDayOf (wsV RL 76 RX6 yX6_lastDayOf wsX6_lastDayOf) := goodIn_app (goodIn_of _ (by decide +kernel)) ggL_lastDayOf_X6_lastDayOf
theorem dL_lastDayOf_0 : decode cL_lastDayOf 0 = .ok (.aload_n 2, 1) := by decide +kernel
theorem dL_lastDayOf_1 : decode cL_lastDayOf 1 = .ok (.iconst 0, 1) := by decide +kernel
theorem dL_lastDayOf_2 : decode cL_lastDayOf 2 = .ok (.aload_n 0, 1) := by decide +kernel
theorem dL_lastDayOf_3 : decode cL_lastDayOf 3 = .ok (.iload_n 1, 1) := by decide +kernel
theorem dL_lastDayOf_4 : decode cL_lastDayOf 4 = .ok (.invokevirtual 76, 3) := by decide +kernel
theorem dL_lastDayOf_7 : decode cL_lastDayOf 7 = .ok (.i2l, 1) := by decide +kernel
theorem dL_lastDayOf_8 : decode cL_lastDayOf 8 = .ok (.lastore, 1) := by decide +kernel
theorem dL_lastDayOf_9 : decode cL_lastDayOf 9 = .ok (.goto 6, 3) := by decide +kernel
theorem dL_lastDayOf_12 : decode cL_lastDayOf 12 = .ok (.astore_n 3, 1) := by decide +kernel
theorem dL_lastDayOf_13 : decode cL_lastDayOf 13 = .ok (.iconst 1, 1) := by decide +kernel
theorem dL_lastDayOf_14 : decode cL_lastDayOf 14 = .ok (.ireturn, 1) := by decide +kernel
theorem dL_lastDayOf_15 : decode cL_lastDayOf 15 = .ok (.iconst 0, 1) := by decide +kernel
theorem dL_lastDayOf_16 : decode cL_lastDayOf 16 = .ok (.ireturn, 1) := by decide +kernel
set_option maxRecDepth 20000 in
theorem ggL_isInForce_X6_isInForce : GoodIn wsL_isInForce wsX6_isInForce := goodIn_ca (goodIn_ca (goodIn_r _ [6, 7, 8, 9, 10, 5, 11, 12, 13, 14, 15, 16, 17, 18, 19, 20, 21, 22, 23, 24, 25, 26, 27, 28, 29, 30, 31, 32, 33, 34, 35, 36, 37, 38, 39, 40, 41, 42, 43, 44, 45, 46, 47, 48, 49, 50, 51, 52, 53, 54, 55, 56, 57, 58, 59, 60, 61, 62, 63, 64, 65, 66, 67, 68, 69, 70, 71, 72, 73, 74, 75, 76, 77, 78, 79, 80] (by decide +kernel) (by decide +kernel)) (goodIn_sub (fun _ h => List.mem_cons_of_mem _ (List.mem_append_right _ h)) (by decide +kernel))) (goodIn_sub (fun _ h => List.mem_cons_of_mem _ (List.mem_append_left _ (List.mem_append_right _ h))) (by decide +kernel))
set_option maxRecDepth 20000 in
theorem gL_isInForce_X6_isInForce : GoodIn wsL_isInForce (wsV RL 79 RX6 yX6_isInForce wsX6_isInForce) := goodIn_app (goodIn_of _ (by decide +kernel)) ggL_isInForce_X6_isInForce
theorem dL_isInForce_0 : decode cL_isInForce 0 = .ok (.aload_n 2, 1) := by decide +kernel
theorem dL_isInForce_1 : decode cL_isInForce 1 = .ok (.iconst 0, 1) := by decide +kernel
theorem dL_isInForce_2 : decode cL_isInForce 2 = .ok (.aload_n 0, 1) := by decide +kernel
theorem dL_isInForce_3 : decode cL_isInForce 3 = .ok (.iload_n 1, 1) := by decide +kernel
theorem dL_isInForce_4 : decode cL_isInForce 4 = .ok (.invokevirtual 79, 3) := by decide +kernel
theorem dL_isInForce_7 : decode cL_isInForce 7 = .ok (.ifCond .eq 7, 3) := by decide +kernel
theorem dL_isInForce_10 : decode cL_isInForce 10 = .ok (.lconst 1, 1) := by decide +kernel
theorem dL_isInForce_11 : decode cL_isInForce 11 = .ok (.goto 4, 3) := by decide +kernel
theorem dL_isInForce_14 : decode cL_isInForce 14 = .ok (.lconst 0, 1) := by decide +kernel
theorem dL_isInForce_15 : decode cL_isInForce 15 = .ok (.lastore, 1) := by decide +kernel
theorem dL_isInForce_16 : decode cL_isInForce 16 = .ok (.goto 6, 3) := by decide +kernel
theorem dL_isInForce_19 : decode cL_isInForce 19 = .ok (.astore_n 3, 1) := by decide +kernel
theorem dL_isInForce_20 : decode cL_isInForce 20 = .ok (.iconst 1, 1) := by decide +kernel
theorem dL_isInForce_21 : decode cL_isInForce 21 = .ok (.ireturn, 1) := by decide +kernel
theorem dL_isInForce_22 : decode cL_isInForce 22 = .ok (.iconst 0, 1) := by decide +kernel
theorem dL_isInForce_23 : decode cL_isInForce 23 = .ok (.ireturn, 1) := by decide +kernel
set_option maxRecDepth 20000 in
theorem ggL_sow_X6_sow : GoodIn wsL_sow wsX6_sow := goodIn_ca (goodIn_ca (goodIn_ca (goodIn_ca (goodIn_r _ [6, 7, 8, 9, 5, 10, 11, 12, 13, 14, 15, 16, 17, 18, 19, 20, 21, 22, 23, 24, 25, 26, 27, 28, 29, 30, 31, 32, 33, 34, 35, 36, 37, 38, 39, 40, 41, 42, 43, 44, 45, 46, 47, 48, 49, 50, 51, 52, 53, 54, 55, 56, 57, 58, 59, 60, 61, 62, 63, 64, 65, 66, 67, 68, 69, 70, 71, 72, 73, 74, 75, 76, 77, 78, 79, 80, 81, 82, 83, 84, 85, 86, 87, 88, 89, 90, 91, 92, 93, 94, 95, 96, 97, 98, 99, 100, 101, 102, 103, 104, 105, 106, 107, 108, 109, 110, 111, 112, 113, 114, 115, 116, 117, 118, 119, 120, 121] (by decide +kernel) (by decide +kernel)) (goodIn_sub (fun _ h => List.mem_cons_of_mem _ (List.mem_append_left _ (List.mem_append_left _ (List.mem_append_left _ (List.mem_append_right _ h))))) (by decide +kernel))) (goodIn_sub (fun _ h => List.mem_cons_of_mem _ (List.mem_append_left _ (List.mem_append_left _ (List.mem_append_right _ h)))) (by decide +kernel))) (goodIn_sub (fun _ h => List.mem_cons_of_mem _ (List.mem_append_left _ (List.mem_append_right _ h))) (by decide +kernel))) (goodIn_sub (fun _ h => List.mem_cons_of_mem _ (List.mem_append_right _ h)) (by decide +kernel))
set_option maxRecDepth 20000 in
theorem gL_sow_X6_sow : GoodIn wsL_sow (wsV RL 82 RX6 yX6_sow wsX6_sow) := goodIn_app (goodIn_of _ (by decide +kernel)) ggL_sow_X6_sow
theorem dL_sow_0 : decode cL_sow 0 = .ok (.aload_n 3, 1) := by decide +kernel
theorem dL_sow_1 : decode cL_sow 1 = .ok (.iconst 0, 1) := by decide +kernel
theorem dL_sow_2 : decode cL_sow 2 = .ok (.aload_n 0, 1) := by decide +kernel
theorem dL_sow_3 : decode cL_sow 3 = .ok (.iload_n 1, 1) := by decide +kernel
theorem dL_sow_4 : decode cL_sow 4 = .ok (.iload_n 2, 1) := by decide +kernel
theorem dL_sow_5 : decode cL_sow 5 = .ok (.invokevirtual 82, 3) := by decide +kernel
theorem dL_sow_8 : decode cL_sow 8 = .ok (.i2l, 1) := by decide +kernel
theorem dL_sow_9 : decode cL_sow 9 = .ok (.lastore, 1) := by decide +kernel
theorem dL_sow_10 : decode cL_sow 10 = .ok (.goto 11, 3) := by decide +kernel
theorem dL_sow_13 : decode cL_sow 13 = .ok (.astore 4, 2) := by decide +kernel
theorem dL_sow_15 : decode cL_sow 15 = .ok (.iconst 1, 1) := by decide +kernel
theorem dL_sow_16 : decode cL_sow 16 = .ok (.ireturn, 1) := by decide +kernel
theorem dL_sow_17 : decode cL_sow 17 = .ok (.astore 4, 2) := by decide +kernel
theorem dL_sow_19 : decode cL_sow 19 = .ok (.iconst 2, 1) := by decide +kernel
theorem dL_sow_20 : decode cL_sow 20 = .ok (.ireturn, 1) := by decide +kernel
theorem dL_sow_21 : decode cL_sow 21 = .ok (.iconst 0, 1) := by decide +kernel
theorem dL_sow_22 : decode cL_sow 22 = .ok (.ireturn, 1) := by decide +kernel
set_option maxRecDepth 20000 in
theorem ggL_pass_X6_pass : GoodIn wsL_pass wsX6_pass := goodIn_ca (goodIn_ca (goodIn_ca (goodIn_ca (goodIn_r _ [6, 7, 8, 9, 5, 10, 11, 12, 13, 14, 15, 16, 17, 18, 19, 20, 21, 22, 23, 24, 25, 26, 27, 28, 29, 30, 31, 32, 33, 34, 35, 36, 37, 38, 39, 40, 41, 42, 43, 44, 45, 46, 47, 48, 49, 50, 51, 52, 53, 54, 55, 56, 57, 58, 59, 60, 61, 62, 63, 64, 65, 66, 67, 68, 69, 70, 71, 72, 73, 74, 75, 76, 77, 78, 79, 80, 81, 82, 83, 84, 85, 86, 87, 88, 89, 90, 91, 92, 93, 94, 95, 96, 97, 98, 99, 100, 101, 102, 103, 104, 105, 106, 107, 108, 109, 110, 111, 112, 113, 114, 115, 116, 117, 118, 119, 120, 121, 122, 123, 124, 125, 126, 127, 128, 129, 130, 131, 132, 133, 134, 135, 136, 137, 138, 139, 140, 141, 142, 143, 144, 145, 146, 147, 148, 149, 150, 151, 152, 153] (by decide +kernel) (by decide +kernel)) (goodIn_sub (fun _ h => List.mem_cons_of_mem _ (List.mem_append_left _ (List.mem_append_left _ (List.mem_append_left _ (List.mem_append_right _ h))))) (by decide +kernel))) (goodIn_sub (fun _ h => List.mem_cons_of_mem _ (List.mem_append_left _ (List.mem_append_left _ (List.mem_append_right _ h)))) (by decide +kernel))) (goodIn_sub (fun _ h => List.mem_cons_of_mem _ (List.mem_append_left _ (List.mem_append_right _ h))) (by decide +kernel))) (goodIn_sub (fun _ h => List.mem_cons_of_mem _ (List.mem_append_right _ h)) (by decide +kernel))
set_option maxRecDepth 20000 in
theorem gL_pass_X6_pass : GoodIn wsL_pass (wsV RL 85 RX6 yX6_pass wsX6_pass) := goodIn_app (goodIn_of _ (by decide +kernel)) ggL_pass_X6_pass
theorem dL_pass_0 : decode cL_pass 0 = .ok (.aload_n 2, 1) := by decide +kernel
theorem dL_pass_1 : decode cL_pass 1 = .ok (.iconst 0, 1) := by decide +kernel
theorem dL_pass_2 : decode cL_pass 2 = .ok (.aload_n 0, 1) := by decide +kernel
theorem dL_pass_3 : decode cL_pass 3 = .ok (.iload_n 1, 1) := by decide +kernel
theorem dL_pass_4 : decode cL_pass 4 = .ok (.invokevirtual 85, 3) := by decide +kernel
theorem dL_pass_7 : decode cL_pass 7 = .ok (.i2l, 1) := by decide +kernel
theorem dL_pass_8 : decode cL_pass 8 = .ok (.lastore, 1) := by decide +kernel
theorem dL_pass_9 : decode cL_pass 9 = .ok (.goto 6, 3) := by decide +kernel
theorem dL_pass_12 : decode cL_pass 12 = .ok (.astore_n 3, 1) := by decide +kernel
theorem dL_pass_13 : decode cL_pass 13 = .ok (.iconst 1, 1) := by decide +kernel
theorem dL_pass_14 : decode cL_pass 14 = .ok (.ireturn, 1) := by decide +kernel
theorem dL_pass_15 : decode cL_pass 15 = .ok (.iconst 0, 1) := by decide +kernel
theorem dL_pass_16 : decode cL_pass 16 = .ok (.ireturn, 1) := by decide +kernel
set_option maxRecDepth 20000 in
theorem ggL_predictEaten_X6_predictEaten : GoodIn wsL_predictEaten wsX6_predictEaten := goodIn_ca (goodIn_ca (goodIn_r _ [6, 7, 8, 9, 10, 11, 12, 13, 14, 15, 16, 17, 18, 19, 20, 21, 22, 23, 24, 25, 26, 27, 28, 29, 30, 31, 32, 33, 34, 35, 36, 37, 38, 39, 40, 41, 42, 43, 44, 45, 46, 47, 48, 49, 50, 51, 52, 53, 54, 55, 56, 57, 58, 59, 60, 61, 62, 5, 63, 64, 65, 66, 67, 68, 69, 70, 71, 72, 73, 74, 75, 76, 77, 78, 79, 80, 81, 82, 83, 84, 85, 86, 87, 88, 89, 90, 91, 92, 93, 94, 95, 96, 97, 98, 99, 100, 101, 102, 103, 104, 105, 106, 107, 108, 109, 110, 111, 112, 113, 114, 115, 116, 117, 118, 119] (by decide +kernel) (by decide +kernel)) (goodIn_sub (fun _ h => List.mem_cons_of_mem _ (List.mem_append_right _ h)) (by decide +kernel))) (goodIn_sub (fun _ h => List.mem_cons_of_mem _ (List.mem_append_left _ (List.mem_append_right _ h))) (by decide +kernel))
set_option maxRecDepth 20000 in
theorem gL_predictEaten_X6_predictEaten : GoodIn wsL_predictEaten (wsV RL 88 RX6 yX6_predictEaten wsX6_predictEaten) := goodIn_app (goodIn_of _ (by decide +kernel)) ggL_predictEaten_X6_predictEaten
theorem dL_predictEaten_0 : decode cL_predictEaten 0 = .ok (.aload_n 2, 1) := by decide +kernel
theorem dL_predictEaten_1 : decode cL_predictEaten 1 = .ok (.iconst 0, 1) := by decide +kernel
theorem dL_predictEaten_2 : decode cL_predictEaten 2 = .ok (.aload_n 0, 1) := by decide +kernel
theorem dL_predictEaten_3 : decode cL_predictEaten 3 = .ok (.iload_n 1, 1) := by decide +kernel
theorem dL_predictEaten_4 : decode cL_predictEaten 4 = .ok (.invokevirtual 88, 3) := by decide +kernel
theorem dL_predictEaten_7 : decode cL_predictEaten 7 = .ok (.i2l, 1) := by decide +kernel
theorem dL_predictEaten_8 : decode cL_predictEaten 8 = .ok (.lastore, 1) := by decide +kernel
theorem dL_predictEaten_9 : decode cL_predictEaten 9 = .ok (.goto 6, 3) := by decide +kernel
theorem dL_predictEaten_12 : decode cL_predictEaten 12 = .ok (.astore_n 3, 1) := by decide +kernel
theorem dL_predictEaten_13 : decode cL_predictEaten 13 = .ok (.iconst 1, 1) := by decide +kernel
theorem dL_predictEaten_14 : decode cL_predictEaten 14 = .ok (.ireturn, 1) := by decide +kernel
theorem dL_predictEaten_15 : decode cL_predictEaten 15 = .ok (.iconst 0, 1) := by decide +kernel
theorem dL_predictEaten_16 : decode cL_predictEaten 16 = .ok (.ireturn, 1) := by decide +kernel
set_option maxRecDepth 20000 in
theorem ggL_grains_X6_grains : GoodIn wsL_grains wsX6_grains := goodIn_ca (goodIn_ca (goodIn_r _ [6, 7, 8, 9, 5, 10, 11, 12, 13, 14, 15, 16, 17, 18, 19, 20, 21, 22, 23, 24, 25, 26, 27, 28, 29, 30, 31, 32, 33, 34, 35, 36, 37, 38, 39, 40, 41, 42, 43, 44, 45, 46] (by decide +kernel) (by decide +kernel)) (goodIn_sub (fun _ h => List.mem_cons_of_mem _ (List.mem_append_right _ h)) (by decide +kernel))) (goodIn_sub (fun _ h => List.mem_cons_of_mem _ (List.mem_append_left _ (List.mem_append_right _ h))) (by decide +kernel))
set_option maxRecDepth 20000 in
theorem gL_grains_X6_grains : GoodIn wsL_grains (wsV RL 91 RX6 yX6_grains wsX6_grains) := goodIn_app (goodIn_of _ (by decide +kernel)) ggL_grains_X6_grains
theorem dL_grains_0 : decode cL_grains 0 = .ok (.aload_n 2, 1) := by decide +kernel
theorem dL_grains_1 : decode cL_grains 1 = .ok (.iconst 0, 1) := by decide +kernel
theorem dL_grains_2 : decode cL_grains 2 = .ok (.aload_n 0, 1) := by decide +kernel
theorem dL_grains_3 : decode cL_grains 3 = .ok (.iload_n 1, 1) := by decide +kernel
theorem dL_grains_4 : decode cL_grains 4 = .ok (.invokevirtual 91, 3) := by decide +kernel
theorem dL_grains_7 : decode cL_grains 7 = .ok (.i2l, 1) := by decide +kernel
theorem dL_grains_8 : decode cL_grains 8 = .ok (.lastore, 1) := by decide +kernel
theorem dL_grains_9 : decode cL_grains 9 = .ok (.goto 6, 3) := by decide +kernel
theorem dL_grains_12 : decode cL_grains 12 = .ok (.astore_n 3, 1) := by decide +kernel
theorem dL_grains_13 : decode cL_grains 13 = .ok (.iconst 1, 1) := by decide +kernel
theorem dL_grains_14 : decode cL_grains 14 = .ok (.ireturn, 1) := by decide +kernel
theorem dL_grains_15 : decode cL_grains 15 = .ok (.iconst 0, 1) := by decide +kernel
theorem dL_grains_16 : decode cL_grains 16 = .ok (.ireturn, 1) := by decide +kernel
set_option maxRecDepth 20000 in
theorem ggL_isGuarded_X6_isGuarded : GoodIn wsL_isGuarded wsX6_isGuarded := goodIn_ca (goodIn_ca (goodIn_r _ [6, 7, 8, 9, 5, 10, 11, 12, 13, 14, 15, 16, 17, 18, 19, 20, 21, 22, 23, 24, 25, 26, 27, 28, 29, 30, 31, 32, 33, 34, 35, 36, 37, 38, 39, 40, 41, 42, 43, 44, 45, 46, 47, 48, 49, 50, 51, 52, 53, 54, 55, 56, 57, 58, 59, 60, 61, 62, 63, 64, 65, 66, 67, 68, 69, 70, 71, 72, 73, 74, 75, 76, 77, 78, 79, 80, 81, 82, 83, 84] (by decide +kernel) (by decide +kernel)) (goodIn_sub (fun _ h => List.mem_cons_of_mem _ (List.mem_append_right _ h)) (by decide +kernel))) (goodIn_sub (fun _ h => List.mem_cons_of_mem _ (List.mem_append_left _ (List.mem_append_right _ h))) (by decide +kernel))
set_option maxRecDepth 20000 in
theorem gL_isGuarded_X6_isGuarded : GoodIn wsL_isGuarded (wsV RL 94 RX6 yX6_isGuarded wsX6_isGuarded) := goodIn_app (goodIn_of _ (by decide +kernel)) ggL_isGuarded_X6_isGuarded
theorem dL_isGuarded_0 : decode cL_isGuarded 0 = .ok (.aload_n 2, 1) := by decide +kernel
theorem dL_isGuarded_1 : decode cL_isGuarded 1 = .ok (.iconst 0, 1) := by decide +kernel
theorem dL_isGuarded_2 : decode cL_isGuarded 2 = .ok (.aload_n 0, 1) := by decide +kernel
theorem dL_isGuarded_3 : decode cL_isGuarded 3 = .ok (.iload_n 1, 1) := by decide +kernel
theorem dL_isGuarded_4 : decode cL_isGuarded 4 = .ok (.invokevirtual 94, 3) := by decide +kernel
theorem dL_isGuarded_7 : decode cL_isGuarded 7 = .ok (.ifCond .eq 7, 3) := by decide +kernel
theorem dL_isGuarded_10 : decode cL_isGuarded 10 = .ok (.lconst 1, 1) := by decide +kernel
theorem dL_isGuarded_11 : decode cL_isGuarded 11 = .ok (.goto 4, 3) := by decide +kernel
theorem dL_isGuarded_14 : decode cL_isGuarded 14 = .ok (.lconst 0, 1) := by decide +kernel
theorem dL_isGuarded_15 : decode cL_isGuarded 15 = .ok (.lastore, 1) := by decide +kernel
theorem dL_isGuarded_16 : decode cL_isGuarded 16 = .ok (.goto 6, 3) := by decide +kernel
theorem dL_isGuarded_19 : decode cL_isGuarded 19 = .ok (.astore_n 3, 1) := by decide +kernel
theorem dL_isGuarded_20 : decode cL_isGuarded 20 = .ok (.iconst 1, 1) := by decide +kernel
theorem dL_isGuarded_21 : decode cL_isGuarded 21 = .ok (.ireturn, 1) := by decide +kernel
theorem dL_isGuarded_22 : decode cL_isGuarded 22 = .ok (.iconst 0, 1) := by decide +kernel
theorem dL_isGuarded_23 : decode cL_isGuarded 23 = .ok (.ireturn, 1) := by decide +kernel
set_option maxRecDepth 20000 in
theorem ggL_meanDaysLeft_X6_meanDaysLeft : GoodIn wsL_meanDaysLeft wsX6_meanDaysLeft := goodIn_ca (goodIn_ca (goodIn_r _ [6, 7, 8, 9, 10, 11, 12, 13, 14, 15, 16, 17, 18, 19, 20, 21, 22, 23, 24, 25, 26, 27, 28, 29, 30, 31, 32, 33, 34, 35, 36, 37, 38, 39, 40] (by decide +kernel) (by decide +kernel)) (goodIn_sub (fun _ h => List.mem_cons_of_mem _ (List.mem_append_right _ h)) (by decide +kernel))) (goodIn_sub (fun _ h => List.mem_cons_of_mem _ (List.mem_append_left _ (List.mem_append_right _ h))) (by decide +kernel))
set_option maxRecDepth 20000 in
theorem gL_meanDaysLeft_X6_meanDaysLeft : GoodIn wsL_meanDaysLeft (wsV RL 97 RX6 yX6_meanDaysLeft wsX6_meanDaysLeft) := goodIn_app (goodIn_of _ (by decide +kernel)) ggL_meanDaysLeft_X6_meanDaysLeft
theorem dL_meanDaysLeft_0 : decode cL_meanDaysLeft 0 = .ok (.aload_n 1, 1) := by decide +kernel
theorem dL_meanDaysLeft_1 : decode cL_meanDaysLeft 1 = .ok (.iconst 0, 1) := by decide +kernel
theorem dL_meanDaysLeft_2 : decode cL_meanDaysLeft 2 = .ok (.aload_n 0, 1) := by decide +kernel
theorem dL_meanDaysLeft_3 : decode cL_meanDaysLeft 3 = .ok (.invokevirtual 97, 3) := by decide +kernel
theorem dL_meanDaysLeft_6 : decode cL_meanDaysLeft 6 = .ok (.dastore, 1) := by decide +kernel
theorem dL_meanDaysLeft_7 : decode cL_meanDaysLeft 7 = .ok (.goto 6, 3) := by decide +kernel
theorem dL_meanDaysLeft_10 : decode cL_meanDaysLeft 10 = .ok (.astore_n 2, 1) := by decide +kernel
theorem dL_meanDaysLeft_11 : decode cL_meanDaysLeft 11 = .ok (.iconst 1, 1) := by decide +kernel
theorem dL_meanDaysLeft_12 : decode cL_meanDaysLeft 12 = .ok (.ireturn, 1) := by decide +kernel
theorem dL_meanDaysLeft_13 : decode cL_meanDaysLeft 13 = .ok (.iconst 0, 1) := by decide +kernel
theorem dL_meanDaysLeft_14 : decode cL_meanDaysLeft 14 = .ok (.ireturn, 1) := by decide +kernel
set_option maxRecDepth 20000 in
theorem ggL_inForceShare_X6_inForceShare : GoodIn wsL_inForceShare wsX6_inForceShare := goodIn_ca (goodIn_ca (goodIn_r _ [6, 7, 8, 9, 10, 11, 12, 13, 14, 15, 16, 17, 18, 19, 20, 21, 22, 23, 24, 25, 26, 27, 28, 29, 30, 31, 32, 33, 34, 35, 36, 37, 38, 39, 40, 41, 5, 42, 43, 44, 45, 46, 47, 48, 49, 50, 51, 52, 53, 54, 55, 56, 57, 58, 59, 60, 61, 62, 63, 64, 65, 66, 67, 68, 69, 70, 71, 72, 73, 74, 75, 76, 77, 78] (by decide +kernel) (by decide +kernel)) (goodIn_sub (fun _ h => List.mem_cons_of_mem _ (List.mem_append_right _ h)) (by decide +kernel))) (goodIn_sub (fun _ h => List.mem_cons_of_mem _ (List.mem_append_left _ (List.mem_append_right _ h))) (by decide +kernel))
set_option maxRecDepth 20000 in
theorem gL_inForceShare_X6_inForceShare : GoodIn wsL_inForceShare (wsV RL 103 RX6 yX6_inForceShare wsX6_inForceShare) := goodIn_app (goodIn_of _ (by decide +kernel)) ggL_inForceShare_X6_inForceShare
theorem dL_inForceShare_0 : decode cL_inForceShare 0 = .ok (.aload_n 1, 1) := by decide +kernel
theorem dL_inForceShare_1 : decode cL_inForceShare 1 = .ok (.iconst 0, 1) := by decide +kernel
theorem dL_inForceShare_2 : decode cL_inForceShare 2 = .ok (.aload_n 0, 1) := by decide +kernel
theorem dL_inForceShare_3 : decode cL_inForceShare 3 = .ok (.invokevirtual 103, 3) := by decide +kernel
theorem dL_inForceShare_6 : decode cL_inForceShare 6 = .ok (.f2d, 1) := by decide +kernel
theorem dL_inForceShare_7 : decode cL_inForceShare 7 = .ok (.dastore, 1) := by decide +kernel
theorem dL_inForceShare_8 : decode cL_inForceShare 8 = .ok (.goto 6, 3) := by decide +kernel
theorem dL_inForceShare_11 : decode cL_inForceShare 11 = .ok (.astore_n 2, 1) := by decide +kernel
theorem dL_inForceShare_12 : decode cL_inForceShare 12 = .ok (.iconst 1, 1) := by decide +kernel
theorem dL_inForceShare_13 : decode cL_inForceShare 13 = .ok (.ireturn, 1) := by decide +kernel
theorem dL_inForceShare_14 : decode cL_inForceShare 14 = .ok (.iconst 0, 1) := by decide +kernel
theorem dL_inForceShare_15 : decode cL_inForceShare 15 = .ok (.ireturn, 1) := by decide +kernel
set_option maxRecDepth 20000 in
theorem ggL_feed_X6_feed : GoodIn wsL_feed wsX6_feed := goodIn_ca (goodIn_ca (goodIn_r _ [6, 7, 8, 9, 10, 11, 12, 13, 14, 15, 16, 17, 18, 19, 20, 21, 22, 23, 24, 25, 26, 27, 28, 29, 30, 31, 32, 33, 34, 35, 36, 37, 38, 39, 40] (by decide +kernel) (by decide +kernel)) (goodIn_sub (fun _ h => List.mem_cons_of_mem _ (List.mem_append_right _ h)) (by decide +kernel))) (goodIn_sub (fun _ h => List.mem_cons_of_mem _ (List.mem_append_left _ (List.mem_append_right _ h))) (by decide +kernel))
set_option maxRecDepth 20000 in
theorem gL_feed_X6_feed : GoodIn wsL_feed (wsV RL 107 RX6 yX6_feed wsX6_feed) := goodIn_app (goodIn_of _ (by decide +kernel)) ggL_feed_X6_feed
theorem dL_feed_0 : decode cL_feed 0 = .ok (.aload_n 2, 1) := by decide +kernel
theorem dL_feed_1 : decode cL_feed 1 = .ok (.iconst 0, 1) := by decide +kernel
theorem dL_feed_2 : decode cL_feed 2 = .ok (.aload_n 0, 1) := by decide +kernel
theorem dL_feed_3 : decode cL_feed 3 = .ok (.iload_n 1, 1) := by decide +kernel
theorem dL_feed_4 : decode cL_feed 4 = .ok (.invokevirtual 107, 3) := by decide +kernel
theorem dL_feed_7 : decode cL_feed 7 = .ok (.i2l, 1) := by decide +kernel
theorem dL_feed_8 : decode cL_feed 8 = .ok (.lastore, 1) := by decide +kernel
theorem dL_feed_9 : decode cL_feed 9 = .ok (.goto 6, 3) := by decide +kernel
theorem dL_feed_12 : decode cL_feed 12 = .ok (.astore_n 3, 1) := by decide +kernel
theorem dL_feed_13 : decode cL_feed 13 = .ok (.iconst 1, 1) := by decide +kernel
theorem dL_feed_14 : decode cL_feed 14 = .ok (.ireturn, 1) := by decide +kernel
theorem dL_feed_15 : decode cL_feed 15 = .ok (.iconst 0, 1) := by decide +kernel
theorem dL_feed_16 : decode cL_feed 16 = .ok (.ireturn, 1) := by decide +kernel
set_option maxRecDepth 20000 in
theorem ggL_execute_X6_execute : GoodIn wsL_execute wsX6_execute := goodIn_ca (goodIn_ca (goodIn_ca (goodIn_r _ [6, 7, 8, 9, 10, 11, 12, 13, 14, 15, 16, 17, 18, 19, 20, 21, 22, 23, 24, 25, 26, 27, 28, 29, 30, 31, 32, 33, 34, 35, 36, 37, 38, 39, 40, 41, 42, 43, 44, 45, 46, 47, 48, 49, 50, 51, 52, 53, 54, 55, 56, 57, 58, 59, 60, 61, 62, 63, 64, 65, 66, 67, 68, 69, 70, 71, 72, 73, 74, 75, 76, 77, 78, 79, 80, 81, 82, 83, 84, 85, 86, 87, 88, 89, 90, 91, 92, 93, 94, 95, 96, 97, 98, 99, 100, 101, 102, 103, 104, 105, 106, 107, 108, 109, 110, 111, 112, 113, 114, 115, 116, 117, 118, 119, 120, 121, 122, 123, 124, 125, 126, 127, 5, 128, 129, 130, 131, 132, 133, 134, 135, 136, 137, 138, 139, 140, 141, 142, 143, 144, 145, 146, 147, 148, 149, 150, 151, 152, 153, 154, 155, 156, 157, 158, 159, 160, 161, 162, 163, 164, 165, 166, 167, 168, 169, 170, 171, 172, 173, 174, 175, 176, 177, 178, 179, 180, 181, 182, 183, 184, 185, 186, 187, 188, 189, 190, 191, 192, 193, 194, 195, 196, 197, 198, 199, 200, 201, 202, 203, 204, 205, 206, 207, 208, 209, 210, 211, 212, 213, 214, 215, 216, 217, 218, 219, 220, 221, 222, 223, 224, 225, 226, 227, 228, 229, 230, 231, 232, 233, 234, 235, 236, 237, 238, 239, 240, 241, 242, 243, 244, 245, 246, 247, 248, 249, 250, 251, 252, 253, 254, 255, 256, 257, 258, 259, 260, 261, 262, 263, 264, 265, 266, 267, 268, 269, 270, 271, 272, 273, 274, 275, 276, 277, 278, 279, 280, 281, 282, 283, 284, 285, 286, 287, 288, 289, 290, 291, 292, 293, 294, 295, 296, 297, 298, 299, 300, 301, 302, 303, 304, 305, 306, 307, 308, 309, 310, 311, 312, 313, 314, 315, 316, 317, 318, 319, 320, 321, 322, 323, 324, 325, 326, 327, 328, 329, 330, 331, 332, 333, 334, 335, 336, 337, 338, 339, 340, 341, 342, 343, 344, 345, 346, 347, 348, 349, 350, 351, 352] (by decide +kernel) (by decide +kernel)) (goodIn_sub (fun _ h => List.mem_cons_of_mem _ (List.mem_append_left _ (List.mem_append_right _ h))) (by decide +kernel))) (goodIn_sub (fun _ h => List.mem_cons_of_mem _ (List.mem_append_right _ h)) (by decide +kernel))) (goodIn_sub (fun _ h => List.mem_cons_of_mem _ (List.mem_append_left _ (List.mem_append_left _ (List.mem_append_right _ h)))) (by decide +kernel))
set_option maxRecDepth 20000 in
theorem gL_execute_X6_execute : GoodIn wsL_execute (wsV RL 113 RX6 yX6_execute wsX6_execute) := goodIn_app (goodIn_of _ (by decide +kernel)) ggL_execute_X6_execute
theorem dL_execute_0 : decode cL_execute 0 = .ok (.aload_n 1, 1) := by decide +kernel
theorem dL_execute_1 : decode cL_execute 1 = .ok (.iconst 0, 1) := by decide +kernel
theorem dL_execute_2 : decode cL_execute 2 = .ok (.aload_n 0, 1) := by decide +kernel
theorem dL_execute_3 : decode cL_execute 3 = .ok (.invokevirtual 113, 3) := by decide +kernel
theorem dL_execute_6 : decode cL_execute 6 = .ok (.i2l, 1) := by decide +kernel
theorem dL_execute_7 : decode cL_execute 7 = .ok (.lastore, 1) := by decide +kernel
theorem dL_execute_8 : decode cL_execute 8 = .ok (.goto 9, 3) := by decide +kernel
theorem dL_execute_11 : decode cL_execute 11 = .ok (.astore_n 2, 1) := by decide +kernel
theorem dL_execute_12 : decode cL_execute 12 = .ok (.iconst 1, 1) := by decide +kernel
theorem dL_execute_13 : decode cL_execute 13 = .ok (.ireturn, 1) := by decide +kernel
theorem dL_execute_14 : decode cL_execute 14 = .ok (.astore_n 2, 1) := by decide +kernel
theorem dL_execute_15 : decode cL_execute 15 = .ok (.iconst 2, 1) := by decide +kernel
theorem dL_execute_16 : decode cL_execute 16 = .ok (.ireturn, 1) := by decide +kernel
theorem dL_execute_17 : decode cL_execute 17 = .ok (.iconst 0, 1) := by decide +kernel
theorem dL_execute_18 : decode cL_execute 18 = .ok (.ireturn, 1) := by decide +kernel
set_option maxRecDepth 20000 in
theorem ggL_faultPosition_X6_faultPosition : GoodIn wsL_faultPosition wsX6_faultPosition := goodIn_ca (goodIn_r _ [6, 7, 8, 9, 10, 11, 12, 13, 14, 15, 16, 17, 18, 19, 20, 21] (by decide +kernel) (by decide +kernel)) (goodIn_sub (fun _ h => List.mem_cons_of_mem _ (List.mem_append_right _ h)) (by decide +kernel))
set_option maxRecDepth 20000 in
theorem gL_faultPosition_X6_faultPosition : GoodIn wsL_faultPosition (wsV RL 117 RX6 yX6_faultPosition wsX6_faultPosition) := goodIn_app (goodIn_of _ (by decide +kernel)) ggL_faultPosition_X6_faultPosition
theorem dL_faultPosition_0 : decode cL_faultPosition 0 = .ok (.aload_n 1, 1) := by decide +kernel
theorem dL_faultPosition_1 : decode cL_faultPosition 1 = .ok (.iconst 0, 1) := by decide +kernel
theorem dL_faultPosition_2 : decode cL_faultPosition 2 = .ok (.aload_n 0, 1) := by decide +kernel
theorem dL_faultPosition_3 : decode cL_faultPosition 3 = .ok (.invokevirtual 117, 3) := by decide +kernel
theorem dL_faultPosition_6 : decode cL_faultPosition 6 = .ok (.i2l, 1) := by decide +kernel
theorem dL_faultPosition_7 : decode cL_faultPosition 7 = .ok (.lastore, 1) := by decide +kernel
theorem dL_faultPosition_8 : decode cL_faultPosition 8 = .ok (.goto 6, 3) := by decide +kernel
theorem dL_faultPosition_11 : decode cL_faultPosition 11 = .ok (.astore_n 2, 1) := by decide +kernel
theorem dL_faultPosition_12 : decode cL_faultPosition 12 = .ok (.iconst 1, 1) := by decide +kernel
theorem dL_faultPosition_13 : decode cL_faultPosition 13 = .ok (.ireturn, 1) := by decide +kernel
theorem dL_faultPosition_14 : decode cL_faultPosition 14 = .ok (.iconst 0, 1) := by decide +kernel
theorem dL_faultPosition_15 : decode cL_faultPosition 15 = .ok (.ireturn, 1) := by decide +kernel
set_option maxRecDepth 20000 in
theorem ggL_writeCertificate_X6_writeCertificate : GoodIn wsL_writeCertificate wsX6_writeCertificate := goodIn_ca (goodIn_ca (goodIn_r _ [6, 7, 8, 9, 10, 11, 5, 12, 13, 14, 15, 16, 17, 18, 19, 20, 21, 22, 23, 24, 25, 26, 27, 28, 29, 30, 31, 32, 33, 34, 35, 36, 37, 38, 39, 40, 41, 42, 43, 44, 45, 46, 47, 48, 49, 50, 51, 52, 53, 54, 55, 56, 57, 58, 59, 60, 61, 62, 63, 64, 65, 66, 67, 68, 69, 70, 71, 72, 73, 74, 75, 76, 77, 78, 79, 80, 81, 82, 83, 84, 85, 86, 87, 88, 89, 90, 91, 92, 93, 94, 95, 96, 97, 98, 99, 100, 101, 102, 103, 104, 105, 106, 107, 108, 109, 110, 111, 112, 113, 114, 115, 116, 117, 118, 119, 120, 121, 122, 123, 124, 125, 126, 127, 128, 129, 130, 131, 132, 133, 134, 135, 136, 137, 138, 139, 140, 141, 142, 143, 144, 145, 146, 147, 148, 149, 150, 151, 152, 153, 154, 155, 156, 157, 158, 159, 160, 161, 162, 163, 164, 165, 166, 167, 168, 169, 170, 171, 172, 173, 174, 175, 176, 177, 178, 179, 180, 181, 182, 183, 184, 185, 186, 187, 188, 189, 190, 191, 192, 193, 194, 195, 196, 197, 198, 199, 200, 201, 202, 203, 204, 205, 206, 207, 208, 209, 210, 211, 212, 213, 214, 215, 216, 217, 218, 219, 220, 221, 222, 223, 224, 225, 226, 227, 228, 229, 230, 231, 232, 233, 234, 235, 236, 237, 238, 239, 240, 241, 242, 243, 244, 245, 246, 247, 248, 249, 250, 251, 252, 253, 254, 255, 256, 257, 258, 259, 260, 261, 262, 263, 264, 265, 266, 267, 268, 269, 270, 271, 272, 273, 274, 275, 276, 277, 278, 279, 280, 281, 282, 283, 284, 285, 286, 287] (by decide +kernel) (by decide +kernel)) (goodIn_sub (fun _ h => List.mem_cons_of_mem _ (List.mem_append_right _ h)) (by decide +kernel))) (goodIn_sub (fun _ h => List.mem_cons_of_mem _ (List.mem_append_left _ (List.mem_append_right _ h))) (by decide +kernel))
set_option maxRecDepth 20000 in
theorem gL_writeCertificate_X6_writeCertificate : GoodIn wsL_writeCertificate (wsV RL 120 RX6 yX6_writeCertificate wsX6_writeCertificate) := goodIn_app (goodIn_of _ (by decide +kernel)) ggL_writeCertificate_X6_writeCertificate
theorem dL_writeCertificate_0 : decode cL_writeCertificate 0 = .ok (.aload_n 2, 1) := by decide +kernel
theorem dL_writeCertificate_1 : decode cL_writeCertificate 1 = .ok (.iconst 0, 1) := by decide +kernel
theorem dL_writeCertificate_2 : decode cL_writeCertificate 2 = .ok (.aload_n 0, 1) := by decide +kernel
theorem dL_writeCertificate_3 : decode cL_writeCertificate 3 = .ok (.iload_n 1, 1) := by decide +kernel
theorem dL_writeCertificate_4 : decode cL_writeCertificate 4 = .ok (.invokevirtual 120, 3) := by decide +kernel
theorem dL_writeCertificate_7 : decode cL_writeCertificate 7 = .ok (.i2l, 1) := by decide +kernel
theorem dL_writeCertificate_8 : decode cL_writeCertificate 8 = .ok (.lastore, 1) := by decide +kernel
theorem dL_writeCertificate_9 : decode cL_writeCertificate 9 = .ok (.goto 6, 3) := by decide +kernel
theorem dL_writeCertificate_12 : decode cL_writeCertificate 12 = .ok (.astore_n 3, 1) := by decide +kernel
theorem dL_writeCertificate_13 : decode cL_writeCertificate 13 = .ok (.iconst 1, 1) := by decide +kernel
theorem dL_writeCertificate_14 : decode cL_writeCertificate 14 = .ok (.ireturn, 1) := by decide +kernel
theorem dL_writeCertificate_15 : decode cL_writeCertificate 15 = .ok (.iconst 0, 1) := by decide +kernel
theorem dL_writeCertificate_16 : decode cL_writeCertificate 16 = .ok (.ireturn, 1) := by decide +kernel
set_option maxRecDepth 20000 in
theorem ggL_lineCharacter_X6_lineCharacter : GoodIn wsL_lineCharacter wsX6_lineCharacter := goodIn_ca (goodIn_r _ [6, 7, 8, 9, 10, 11, 12, 13, 14, 15, 16, 17, 18, 19, 20, 21, 22, 23, 24, 25, 26, 27, 28, 29, 30, 31, 32, 33, 34, 35, 36, 37, 38, 39, 40, 41, 42, 43, 44, 45, 46, 47, 48, 49, 50, 51, 52, 53, 54, 55, 56, 57, 58, 59, 60, 61, 62, 63, 64, 65, 66, 67, 68, 69, 70] (by decide +kernel) (by decide +kernel)) (goodIn_sub (fun _ h => List.mem_cons_of_mem _ (List.mem_append_right _ h)) (by decide +kernel))
set_option maxRecDepth 20000 in
theorem gL_lineCharacter_X6_lineCharacter : GoodIn wsL_lineCharacter (wsV RL 123 RX6 yX6_lineCharacter wsX6_lineCharacter) := goodIn_app (goodIn_of _ (by decide +kernel)) ggL_lineCharacter_X6_lineCharacter
theorem dL_lineCharacter_0 : decode cL_lineCharacter 0 = .ok (.aload_n 2, 1) := by decide +kernel
theorem dL_lineCharacter_1 : decode cL_lineCharacter 1 = .ok (.iconst 0, 1) := by decide +kernel
theorem dL_lineCharacter_2 : decode cL_lineCharacter 2 = .ok (.aload_n 0, 1) := by decide +kernel
theorem dL_lineCharacter_3 : decode cL_lineCharacter 3 = .ok (.iload_n 1, 1) := by decide +kernel
theorem dL_lineCharacter_4 : decode cL_lineCharacter 4 = .ok (.invokevirtual 123, 3) := by decide +kernel
theorem dL_lineCharacter_7 : decode cL_lineCharacter 7 = .ok (.i2l, 1) := by decide +kernel
theorem dL_lineCharacter_8 : decode cL_lineCharacter 8 = .ok (.lastore, 1) := by decide +kernel
theorem dL_lineCharacter_9 : decode cL_lineCharacter 9 = .ok (.goto 6, 3) := by decide +kernel
theorem dL_lineCharacter_12 : decode cL_lineCharacter 12 = .ok (.astore_n 3, 1) := by decide +kernel
theorem dL_lineCharacter_13 : decode cL_lineCharacter 13 = .ok (.iconst 1, 1) := by decide +kernel
theorem dL_lineCharacter_14 : decode cL_lineCharacter 14 = .ok (.ireturn, 1) := by decide +kernel
theorem dL_lineCharacter_15 : decode cL_lineCharacter 15 = .ok (.iconst 0, 1) := by decide +kernel
theorem dL_lineCharacter_16 : decode cL_lineCharacter 16 = .ok (.ireturn, 1) := by decide +kernel
set_option maxRecDepth 20000 in
theorem ggL_denial_X6_denial : GoodIn wsL_denial wsX6_denial := goodIn_ca (goodIn_r _ [6, 7, 8, 9, 10, 5, 11, 12, 13, 14, 15, 16, 17, 18, 19, 20, 21, 22, 23, 24, 25] (by decide +kernel) (by decide +kernel)) (goodIn_sub (fun _ h => List.mem_cons_of_mem _ (List.mem_append_right _ h)) (by decide +kernel))
set_option maxRecDepth 20000 in
theorem gL_denial_X6_denial : GoodIn wsL_denial (wsV RL 127 RX6 yX6_denial wsX6_denial) := goodIn_app (goodIn_of _ (by decide +kernel)) ggL_denial_X6_denial
theorem dL_denial_0 : decode cL_denial 0 = .ok (.aload_n 1, 1) := by decide +kernel
theorem dL_denial_1 : decode cL_denial 1 = .ok (.iconst 0, 1) := by decide +kernel
theorem dL_denial_2 : decode cL_denial 2 = .ok (.aload_n 0, 1) := by decide +kernel
theorem dL_denial_3 : decode cL_denial 3 = .ok (.invokevirtual 127, 3) := by decide +kernel
theorem dL_denial_6 : decode cL_denial 6 = .ok (.i2l, 1) := by decide +kernel
theorem dL_denial_7 : decode cL_denial 7 = .ok (.lastore, 1) := by decide +kernel
theorem dL_denial_8 : decode cL_denial 8 = .ok (.goto 6, 3) := by decide +kernel
theorem dL_denial_11 : decode cL_denial 11 = .ok (.astore_n 2, 1) := by decide +kernel
theorem dL_denial_12 : decode cL_denial 12 = .ok (.iconst 1, 1) := by decide +kernel
theorem dL_denial_13 : decode cL_denial 13 = .ok (.ireturn, 1) := by decide +kernel
theorem dL_denial_14 : decode cL_denial 14 = .ok (.iconst 0, 1) := by decide +kernel
theorem dL_denial_15 : decode cL_denial 15 = .ok (.ireturn, 1) := by decide +kernel
set_option maxRecDepth 20000 in
theorem ggL_denialDetail_X6_denialDetail : GoodIn wsL_denialDetail wsX6_denialDetail := goodIn_ca (goodIn_r _ [6, 7, 8, 9, 10, 5, 11, 12, 13, 14, 15, 16, 17, 18, 19, 20, 21, 22, 23, 24, 25, 26] (by decide +kernel) (by decide +kernel)) (goodIn_sub (fun _ h => List.mem_cons_of_mem _ (List.mem_append_right _ h)) (by decide +kernel))
set_option maxRecDepth 20000 in
theorem gL_denialDetail_X6_denialDetail : GoodIn wsL_denialDetail (wsV RL 130 RX6 yX6_denialDetail wsX6_denialDetail) := goodIn_app (goodIn_of _ (by decide +kernel)) ggL_denialDetail_X6_denialDetail
theorem dL_denialDetail_0 : decode cL_denialDetail 0 = .ok (.aload_n 1, 1) := by decide +kernel
theorem dL_denialDetail_1 : decode cL_denialDetail 1 = .ok (.iconst 0, 1) := by decide +kernel
theorem dL_denialDetail_2 : decode cL_denialDetail 2 = .ok (.aload_n 0, 1) := by decide +kernel
theorem dL_denialDetail_3 : decode cL_denialDetail 3 = .ok (.invokevirtual 130, 3) := by decide +kernel
theorem dL_denialDetail_6 : decode cL_denialDetail 6 = .ok (.i2l, 1) := by decide +kernel
theorem dL_denialDetail_7 : decode cL_denialDetail 7 = .ok (.lastore, 1) := by decide +kernel
theorem dL_denialDetail_8 : decode cL_denialDetail 8 = .ok (.goto 6, 3) := by decide +kernel
theorem dL_denialDetail_11 : decode cL_denialDetail 11 = .ok (.astore_n 2, 1) := by decide +kernel
theorem dL_denialDetail_12 : decode cL_denialDetail 12 = .ok (.iconst 1, 1) := by decide +kernel
theorem dL_denialDetail_13 : decode cL_denialDetail 13 = .ok (.ireturn, 1) := by decide +kernel
theorem dL_denialDetail_14 : decode cL_denialDetail 14 = .ok (.iconst 0, 1) := by decide +kernel
theorem dL_denialDetail_15 : decode cL_denialDetail 15 = .ok (.ireturn, 1) := by decide +kernel
set_option maxRecDepth 20000 in
theorem ggL_denialCause_X6_denialCause : GoodIn wsL_denialCause wsX6_denialCause := goodIn_ca (goodIn_r _ [6, 7, 8, 9, 10, 11, 12, 13, 14, 15, 16, 17, 18, 19, 20, 21] (by decide +kernel) (by decide +kernel)) (goodIn_sub (fun _ h => List.mem_cons_of_mem _ (List.mem_append_right _ h)) (by decide +kernel))
set_option maxRecDepth 20000 in
theorem gL_denialCause_X6_denialCause : GoodIn wsL_denialCause (wsV RL 133 RX6 yX6_denialCause wsX6_denialCause) := goodIn_app (goodIn_of _ (by decide +kernel)) ggL_denialCause_X6_denialCause
theorem dL_denialCause_0 : decode cL_denialCause 0 = .ok (.aload_n 1, 1) := by decide +kernel
theorem dL_denialCause_1 : decode cL_denialCause 1 = .ok (.iconst 0, 1) := by decide +kernel
theorem dL_denialCause_2 : decode cL_denialCause 2 = .ok (.aload_n 0, 1) := by decide +kernel
theorem dL_denialCause_3 : decode cL_denialCause 3 = .ok (.invokevirtual 133, 3) := by decide +kernel
theorem dL_denialCause_6 : decode cL_denialCause 6 = .ok (.i2l, 1) := by decide +kernel
theorem dL_denialCause_7 : decode cL_denialCause 7 = .ok (.lastore, 1) := by decide +kernel
theorem dL_denialCause_8 : decode cL_denialCause 8 = .ok (.goto 6, 3) := by decide +kernel
theorem dL_denialCause_11 : decode cL_denialCause 11 = .ok (.astore_n 2, 1) := by decide +kernel
theorem dL_denialCause_12 : decode cL_denialCause 12 = .ok (.iconst 1, 1) := by decide +kernel
theorem dL_denialCause_13 : decode cL_denialCause 13 = .ok (.ireturn, 1) := by decide +kernel
theorem dL_denialCause_14 : decode cL_denialCause 14 = .ok (.iconst 0, 1) := by decide +kernel
theorem dL_denialCause_15 : decode cL_denialCause 15 = .ok (.ireturn, 1) := by decide +kernel
set_option maxRecDepth 20000 in
theorem ggL_undo_X6_undo : GoodIn wsL_undo wsX6_undo := goodIn_ca (goodIn_r _ [6, 7, 8, 9, 10, 11, 12, 13, 14, 15, 16, 17, 18, 19, 20, 21, 22, 23, 24, 25, 26, 27, 28, 29, 30, 31, 32, 33, 34, 35, 36, 37, 38, 39, 40, 41, 42, 43, 44, 45, 46, 47, 48, 49, 50, 51, 52, 53, 54, 55, 56, 57, 58, 59, 60, 61, 62, 63, 64, 65, 66, 67, 68, 69, 70, 71, 72, 73, 74, 75, 76, 77, 78, 79, 80, 81, 82, 83, 84, 85] (by decide +kernel) (by decide +kernel)) (goodIn_sub (fun _ h => List.mem_cons_of_mem _ (List.mem_append_right _ h)) (by decide +kernel))
set_option maxRecDepth 20000 in
theorem gL_undo_X6_undo : GoodIn wsL_undo (wsV RL 136 RX6 yX6_undo wsX6_undo) := goodIn_app (goodIn_of _ (by decide +kernel)) ggL_undo_X6_undo
theorem dL_undo_0 : decode cL_undo 0 = .ok (.aload_n 1, 1) := by decide +kernel
theorem dL_undo_1 : decode cL_undo 1 = .ok (.iconst 0, 1) := by decide +kernel
theorem dL_undo_2 : decode cL_undo 2 = .ok (.aload_n 0, 1) := by decide +kernel
theorem dL_undo_3 : decode cL_undo 3 = .ok (.invokevirtual 136, 3) := by decide +kernel
theorem dL_undo_6 : decode cL_undo 6 = .ok (.i2l, 1) := by decide +kernel
theorem dL_undo_7 : decode cL_undo 7 = .ok (.lastore, 1) := by decide +kernel
theorem dL_undo_8 : decode cL_undo 8 = .ok (.goto 6, 3) := by decide +kernel
theorem dL_undo_11 : decode cL_undo 11 = .ok (.astore_n 2, 1) := by decide +kernel
theorem dL_undo_12 : decode cL_undo 12 = .ok (.iconst 1, 1) := by decide +kernel
theorem dL_undo_13 : decode cL_undo 13 = .ok (.ireturn, 1) := by decide +kernel
theorem dL_undo_14 : decode cL_undo 14 = .ok (.iconst 0, 1) := by decide +kernel
theorem dL_undo_15 : decode cL_undo 15 = .ok (.ireturn, 1) := by decide +kernel
set_option maxRecDepth 20000 in
theorem ggL_restoreSnapshot_X6_restoreSnapshot : GoodIn wsL_restoreSnapshot wsX6_restoreSnapshot := goodIn_ca (goodIn_r _ [6, 7, 8, 9, 10, 11, 12, 13, 14, 15, 16, 17, 18, 19, 20, 21, 22, 23, 24, 25, 26, 27, 28, 29, 30, 31, 32, 33, 34, 35, 36, 37, 38, 39, 40, 41, 42, 43, 44, 45, 46, 47, 48, 49, 50, 51, 52, 53, 54, 55, 56, 57, 58, 59, 60, 61, 62, 63, 64, 65, 66, 67, 68, 69, 70, 71, 72, 73, 74, 75, 76, 77] (by decide +kernel) (by decide +kernel)) (goodIn_sub (fun _ h => List.mem_cons_of_mem _ (List.mem_append_right _ h)) (by decide +kernel))
set_option maxRecDepth 20000 in
theorem gL_restoreSnapshot_X6_restoreSnapshot : GoodIn wsL_restoreSnapshot (wsV RL 139 RX6 yX6_restoreSnapshot wsX6_restoreSnapshot) := goodIn_app (goodIn_of _ (by decide +kernel)) ggL_restoreSnapshot_X6_restoreSnapshot
theorem dL_restoreSnapshot_0 : decode cL_restoreSnapshot 0 = .ok (.aload_n 1, 1) := by decide +kernel
theorem dL_restoreSnapshot_1 : decode cL_restoreSnapshot 1 = .ok (.iconst 0, 1) := by decide +kernel
theorem dL_restoreSnapshot_2 : decode cL_restoreSnapshot 2 = .ok (.aload_n 0, 1) := by decide +kernel
theorem dL_restoreSnapshot_3 : decode cL_restoreSnapshot 3 = .ok (.invokevirtual 139, 3) := by decide +kernel
theorem dL_restoreSnapshot_6 : decode cL_restoreSnapshot 6 = .ok (.i2l, 1) := by decide +kernel
theorem dL_restoreSnapshot_7 : decode cL_restoreSnapshot 7 = .ok (.lastore, 1) := by decide +kernel
theorem dL_restoreSnapshot_8 : decode cL_restoreSnapshot 8 = .ok (.goto 6, 3) := by decide +kernel
theorem dL_restoreSnapshot_11 : decode cL_restoreSnapshot 11 = .ok (.astore_n 2, 1) := by decide +kernel
theorem dL_restoreSnapshot_12 : decode cL_restoreSnapshot 12 = .ok (.iconst 1, 1) := by decide +kernel
theorem dL_restoreSnapshot_13 : decode cL_restoreSnapshot 13 = .ok (.ireturn, 1) := by decide +kernel
theorem dL_restoreSnapshot_14 : decode cL_restoreSnapshot 14 = .ok (.iconst 0, 1) := by decide +kernel
theorem dL_restoreSnapshot_15 : decode cL_restoreSnapshot 15 = .ok (.ireturn, 1) := by decide +kernel
