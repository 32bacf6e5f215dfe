set_option maxRecDepth 20000 in
theorem ggX6_init_X5_init : GoodIn wsX6_init wsX5_init := goodIn_ca (goodIn_r _ [28, 29, 2, 3, 30, 31, 32, 33, 34, 35, 36, 37, 38, 39, 40, 41, 42, 43, 44, 45, 46, 47, 48, 49, 50, 51, 52, 125, 89, 90, 91, 92, 93, 94, 95, 96, 97, 98, 99, 100] (by decide +kernel) (by decide +kernel)) (goodIn_sub (fun _ h => List.mem_cons_of_mem _ (List.mem_append_right _ h)) (by decide +kernel))
set_option maxRecDepth 20000 in
theorem gX6_init_X5_init : GoodIn wsX6_init (wsX5_init) := ggX6_init_X5_init
set_option maxRecDepth 20000 in
theorem ggX6_init_X2_init : GoodIn wsX6_init wsX2_init := goodIn_ca (goodIn_r _ [55, 56, 2, 3, 57, 58, 5, 6, 59, 27, 28, 29, 30, 31, 32, 33, 34, 35, 36, 37, 38, 39, 40, 41, 42, 43, 44, 45, 46, 47, 48, 49, 50, 51, 52, 113, 114, 115, 89, 90, 91, 92, 93, 94, 95, 96, 97, 98, 99, 100, 125] (by decide +kernel) (by decide +kernel)) (goodIn_sub (fun _ h => List.mem_cons_of_mem _ (List.mem_append_right _ h)) (by decide +kernel))
set_option maxRecDepth 20000 in
theorem gX6_init_X2_init : GoodIn wsX6_init (wsX2_init) := ggX6_init_X2_init
set_option maxRecDepth 20000 in
theorem ggX6_init_X1_init : GoodIn wsX6_init wsX1_init := goodIn_r _ [61, 62, 2, 3, 63, 31, 32, 64, 65, 66, 67, 68, 40, 41, 42, 43, 44, 45, 46, 47, 48, 125, 116, 117, 118, 119, 120] (by decide +kernel) (by decide +kernel)
set_option maxRecDepth 20000 in
theorem gX6_init_X1_init_n34 : GoodIn wsX6_init (wsX1_init) := ggX6_init_X1_init
set_option maxRecDepth 20000 in
theorem ggX6_init_J4_init_da8c8 : GoodIn wsX6_init wsJ4_init_da8c8 := goodIn_r _ [71, 72, 73, 74, 75, 76, 2, 3, 77, 78, 79, 80, 81, 82, 83, 84, 85, 86, 87, 88, 121, 122, 123, 124] (by decide +kernel) (by decide +kernel)
set_option maxRecDepth 20000 in
theorem gX6_init_J4_init_da8c8 : GoodIn wsX6_init (wsJ4_init_da8c8) := ggX6_init_J4_init_da8c8
theorem dX6_init_0 : decode cX6_init 0 = .ok (.aload_n 0, 1) := by decide +kernel
theorem dX6_init_1 : decode cX6_init 1 = .ok (.invokespecial 1, 3) := by decide +kernel
theorem dX6_init_4 : decode cX6_init 4 = .ok (.aload_n 0, 1) := by decide +kernel
theorem dX6_init_5 : decode cX6_init 5 = .ok (.new 7, 3) := by decide +kernel
theorem dX6_init_8 : decode cX6_init 8 = .ok (.dup, 1) := by decide +kernel
theorem dX6_init_9 : decode cX6_init 9 = .ok (.invokespecial 9, 3) := by decide +kernel
theorem dX6_init_12 : decode cX6_init 12 = .ok (.putfield 10, 3) := by decide +kernel
theorem dX6_init_15 : decode cX6_init 15 = .ok (.aload_n 0, 1) := by decide +kernel
theorem dX6_init_16 : decode cX6_init 16 = .ok (.new 7, 3) := by decide +kernel
theorem dX6_init_19 : decode cX6_init 19 = .ok (.dup, 1) := by decide +kernel
theorem dX6_init_20 : decode cX6_init 20 = .ok (.invokespecial 9, 3) := by decide +kernel
theorem dX6_init_23 : decode cX6_init 23 = .ok (.putfield 16, 3) := by decide +kernel
theorem dX6_init_26 : decode cX6_init 26 = .ok (.aload_n 0, 1) := by decide +kernel
theorem dX6_init_27 : decode cX6_init 27 = .ok (.new 7, 3) := by decide +kernel
theorem dX6_init_30 : decode cX6_init 30 = .ok (.dup, 1) := by decide +kernel
theorem dX6_init_31 : decode cX6_init 31 = .ok (.invokespecial 9, 3) := by decide +kernel
theorem dX6_init_34 : decode cX6_init 34 = .ok (.putfield 19, 3) := by decide +kernel
theorem dX6_init_37 : decode cX6_init 37 = .ok (.aload_n 0, 1) := by decide +kernel
theorem dX6_init_38 : decode cX6_init 38 = .ok (.new 7, 3) := by decide +kernel
theorem dX6_init_41 : decode cX6_init 41 = .ok (.dup, 1) := by decide +kernel
theorem dX6_init_42 : decode cX6_init 42 = .ok (.invokespecial 9, 3) := by decide +kernel
theorem dX6_init_45 : decode cX6_init 45 = .ok (.putfield 22, 3) := by decide +kernel
theorem dX6_init_48 : decode cX6_init 48 = .ok (.aload_n 0, 1) := by decide +kernel
theorem dX6_init_49 : decode cX6_init 49 = .ok (.new 25, 3) := by decide +kernel
theorem dX6_init_52 : decode cX6_init 52 = .ok (.dup, 1) := by decide +kernel
theorem dX6_init_53 : decode cX6_init 53 = .ok (.invokespecial 27, 3) := by decide +kernel
theorem dX6_init_56 : decode cX6_init 56 = .ok (.putfield 28, 3) := by decide +kernel
theorem dX6_init_59 : decode cX6_init 59 = .ok (.aload_n 0, 1) := by decide +kernel
theorem dX6_init_60 : decode cX6_init 60 = .ok (.new 32, 3) := by decide +kernel
theorem dX6_init_63 : decode cX6_init 63 = .ok (.dup, 1) := by decide +kernel
theorem dX6_init_64 : decode cX6_init 64 = .ok (.invokespecial 34, 3) := by decide +kernel
theorem dX6_init_67 : decode cX6_init 67 = .ok (.putfield 35, 3) := by decide +kernel
theorem dX6_init_70 : decode cX6_init 70 = .ok (.aload_n 0, 1) := by decide +kernel
theorem dX6_init_71 : decode cX6_init 71 = .ok (.new 39, 3) := by decide +kernel
theorem dX6_init_74 : decode cX6_init 74 = .ok (.dup, 1) := by decide +kernel
theorem dX6_init_75 : decode cX6_init 75 = .ok (.invokespecial 41, 3) := by decide +kernel
theorem dX6_init_78 : decode cX6_init 78 = .ok (.putfield 42, 3) := by decide +kernel
theorem dX6_init_81 : decode cX6_init 81 = .ok (.aload_n 0, 1) := by decide +kernel
theorem dX6_init_82 : decode cX6_init 82 = .ok (.iconst (-1), 1) := by decide +kernel
theorem dX6_init_83 : decode cX6_init 83 = .ok (.putfield 46, 3) := by decide +kernel
theorem dX6_init_86 : decode cX6_init 86 = .ok (.aload_n 0, 1) := by decide +kernel
theorem dX6_init_87 : decode cX6_init 87 = .ok (.iconst 0, 1) := by decide +kernel
theorem dX6_init_88 : decode cX6_init 88 = .ok (.putfield 50, 3) := by decide +kernel
theorem dX6_init_91 : decode cX6_init 91 = .ok (.aload_n 0, 1) := by decide +kernel
theorem dX6_init_92 : decode cX6_init 92 = .ok (.iconst 0, 1) := by decide +kernel
theorem dX6_init_93 : decode cX6_init 93 = .ok (.putfield 53, 3) := by decide +kernel
theorem dX6_init_96 : decode cX6_init 96 = .ok (.return_, 1) := by decide +kernel
set_option maxRecDepth 20000 in
theorem ggX6_register_X6_beginChange : GoodIn wsX6_register wsX6_beginChange := goodIn_r _ [5, 6, 7, 8, 9, 10, 11, 12, 13, 14, 15, 16, 17, 18, 19, 20, 21, 22, 23, 24, 25, 26, 27, 28, 29, 30, 31, 32, 33, 34, 35, 36, 37, 38, 97, 98, 99, 100, 101, 102, 103, 104, 105, 106, 107, 108, 109, 110, 111, 112, 113, 114, 115, 116, 117, 118, 119, 120, 121] (by decide +kernel) (by decide +kernel)
set_option maxRecDepth 20000 in
theorem gX6_register_X6_beginChange : GoodIn wsX6_register (wsV RX6 56 RX6 yX6_beginChange wsX6_beginChange) := goodIn_app (goodIn_of _ (by decide +kernel)) ggX6_register_X6_beginChange
set_option maxRecDepth 20000 in
theorem ggX6_register_X6_putScarecrow : GoodIn wsX6_register wsX6_putScarecrow := goodIn_ca (goodIn_r _ [42, 7, 43, 44, 4, 45, 46, 47, 48, 49, 50, 51, 52, 53, 54, 55, 11, 56, 14, 13, 57, 58, 59, 28, 60, 30, 61, 62, 63, 64, 65, 66, 67, 68, 97, 98, 99, 100, 101, 102, 103, 104, 105, 106, 107, 108, 109, 110, 111, 112, 113, 114, 115, 116, 117, 118, 119, 120, 121] (by decide +kernel) (by decide +kernel)) (goodIn_sub (fun _ h => List.mem_cons_of_mem _ (List.mem_append_left _ (List.mem_append_left _ (List.mem_append_left _ (List.mem_append_right _ h))))) (by decide +kernel))
set_option maxRecDepth 20000 in
theorem gX6_register_X6_putScarecrow : GoodIn wsX6_register (wsV RX6 59 RX6 yX6_putScarecrow wsX6_putScarecrow) := goodIn_app (goodIn_of _ (by decide +kernel)) ggX6_register_X6_putScarecrow
set_option maxRecDepth 20000 in
theorem ggX6_register_X6_endChange : GoodIn wsX6_register wsX6_endChange := goodIn_ca (goodIn_ca (goodIn_ca (goodIn_r _ [72, 73, 74, 75, 76, 77, 78, 79, 6, 80, 81, 82, 83, 84, 85, 86, 87, 88, 89, 90, 91, 92, 93, 94, 95, 96, 9, 10, 11, 12, 13, 14, 15, 16, 17, 18, 19, 20, 21, 22, 23, 24, 25, 26, 27, 28, 29, 30, 31, 32, 33, 34, 35, 36, 37, 38, 97, 98, 99, 100, 101, 102, 103, 104, 105, 106, 107, 108, 122, 123, 124, 109, 110, 111, 112, 113, 114, 115, 116, 117, 118, 119, 120, 121] (by decide +kernel) (by decide +kernel)) (goodIn_sub (fun _ h => List.mem_cons_of_mem _ (List.mem_append_left _ (List.mem_append_left _ (List.mem_append_right _ h)))) (by decide +kernel))) (goodIn_sub (fun _ h => List.mem_cons_of_mem _ (List.mem_append_left _ (List.mem_append_right _ h))) (by decide +kernel))) (goodIn_sub (fun _ h => List.mem_cons_of_mem _ (List.mem_append_right _ h)) (by decide +kernel))
set_option maxRecDepth 20000 in
theorem gX6_register_X6_endChange : GoodIn wsX6_register (wsV RX6 63 RX6 yX6_endChange wsX6_endChange) := goodIn_app (goodIn_of _ (by decide +kernel)) ggX6_register_X6_endChange
theorem dX6_register_0 : decode cX6_register 0 = .ok (.aload_n 0, 1) := by decide +kernel
theorem dX6_register_1 : decode cX6_register 1 = .ok (.invokevirtual 56, 3) := by decide +kernel
theorem dX6_register_4 : decode cX6_register 4 = .ok (.aload_n 0, 1) := by decide +kernel
theorem dX6_register_5 : decode cX6_register 5 = .ok (.aload_n 0, 1) := by decide +kernel
theorem dX6_register_6 : decode cX6_register 6 = .ok (.iload_n 1, 1) := by decide +kernel
theorem dX6_register_7 : decode cX6_register 7 = .ok (.invokevirtual 59, 3) := by decide +kernel
theorem dX6_register_10 : decode cX6_register 10 = .ok (.invokevirtual 63, 3) := by decide +kernel
theorem dX6_register_13 : decode cX6_register 13 = .ok (.ireturn, 1) := by decide +kernel
set_option maxRecDepth 20000 in
theorem ggX6_move_X6_beginChange : GoodIn wsX6_move wsX6_beginChange := goodIn_r _ [5, 6, 7, 8, 9, 10, 11, 12, 13, 14, 15, 16, 17, 18, 19, 20, 21, 22, 23, 24, 25, 26, 27, 28, 29, 30, 31, 32, 33, 34, 35, 36, 37, 38, 98, 99, 100, 101, 102, 103, 104, 105, 106, 107, 108, 109, 110, 111, 112, 113, 114, 115, 116, 117, 118, 119, 120, 121, 122] (by decide +kernel) (by decide +kernel)
set_option maxRecDepth 20000 in
theorem gX6_move_X6_beginChange : GoodIn wsX6_move (wsV RX6 56 RX6 yX6_beginChange wsX6_beginChange) := goodIn_app (goodIn_of _ (by decide +kernel)) ggX6_move_X6_beginChange
set_option maxRecDepth 20000 in
theorem ggX6_move_X6_moveScarecrow : GoodIn wsX6_move wsX6_moveScarecrow := goodIn_ca (goodIn_r _ [42, 7, 43, 44, 45, 11, 46, 14, 47, 48, 4, 49, 50, 51, 52, 53, 13, 54, 55, 56, 28, 57, 30, 58, 59, 60, 61, 62, 63, 64, 65, 66, 67, 68, 69, 98, 99, 100, 101, 102, 103, 104, 105, 106, 107, 108, 109, 110, 111, 112, 113, 114, 115, 116, 117, 118, 119, 120, 121, 122] (by decide +kernel) (by decide +kernel)) (goodIn_sub (fun _ h => List.mem_cons_of_mem _ (List.mem_append_left _ (List.mem_append_left _ (List.mem_append_left _ (List.mem_append_right _ h))))) (by decide +kernel))
set_option maxRecDepth 20000 in
theorem gX6_move_X6_moveScarecrow : GoodIn wsX6_move (wsV RX6 66 RX6 yX6_moveScarecrow wsX6_moveScarecrow) := goodIn_app (goodIn_of _ (by decide +kernel)) ggX6_move_X6_moveScarecrow
set_option maxRecDepth 20000 in
theorem ggX6_move_X6_endChange : GoodIn wsX6_move wsX6_endChange := goodIn_ca (goodIn_ca (goodIn_ca (goodIn_r _ [73, 74, 75, 76, 77, 78, 79, 80, 6, 81, 82, 83, 84, 85, 86, 87, 88, 89, 90, 91, 92, 93, 94, 95, 96, 97, 9, 10, 11, 12, 13, 14, 15, 16, 17, 18, 19, 20, 21, 22, 23, 24, 25, 26, 27, 28, 29, 30, 31, 32, 33, 34, 35, 36, 37, 38, 98, 99, 100, 101, 102, 103, 104, 105, 106, 107, 108, 109, 123, 124, 125, 110, 111, 112, 113, 114, 115, 116, 117, 118, 119, 120, 121, 122] (by decide +kernel) (by decide +kernel)) (goodIn_sub (fun _ h => List.mem_cons_of_mem _ (List.mem_append_left _ (List.mem_append_left _ (List.mem_append_right _ h)))) (by decide +kernel))) (goodIn_sub (fun _ h => List.mem_cons_of_mem _ (List.mem_append_left _ (List.mem_append_right _ h))) (by decide +kernel))) (goodIn_sub (fun _ h => List.mem_cons_of_mem _ (List.mem_append_right _ h)) (by decide +kernel))
set_option maxRecDepth 20000 in
theorem gX6_move_X6_endChange : GoodIn wsX6_move (wsV RX6 63 RX6 yX6_endChange wsX6_endChange) := goodIn_app (goodIn_of _ (by decide +kernel)) ggX6_move_X6_endChange
theorem dX6_move_0 : decode cX6_move 0 = .ok (.aload_n 0, 1) := by decide +kernel
theorem dX6_move_1 : decode cX6_move 1 = .ok (.invokevirtual 56, 3) := by decide +kernel
theorem dX6_move_4 : decode cX6_move 4 = .ok (.aload_n 0, 1) := by decide +kernel
theorem dX6_move_5 : decode cX6_move 5 = .ok (.aload_n 0, 1) := by decide +kernel
theorem dX6_move_6 : decode cX6_move 6 = .ok (.iload_n 1, 1) := by decide +kernel
theorem dX6_move_7 : decode cX6_move 7 = .ok (.iload_n 2, 1) := by decide +kernel
theorem dX6_move_8 : decode cX6_move 8 = .ok (.invokevirtual 66, 3) := by decide +kernel
theorem dX6_move_11 : decode cX6_move 11 = .ok (.invokevirtual 63, 3) := by decide +kernel
theorem dX6_move_14 : decode cX6_move 14 = .ok (.ireturn, 1) := by decide +kernel
set_option maxRecDepth 20000 in
theorem ggX6_setRevoked_X6_beginChange : GoodIn wsX6_setRevoked wsX6_beginChange := goodIn_r _ [5, 6, 7, 8, 9, 10, 11, 12, 13, 14, 15, 16, 17, 18, 19, 20, 21, 22, 23, 24, 25, 26, 27, 28, 29, 30, 31, 32, 33, 34, 35, 36, 37, 38, 112, 113, 114, 115, 116, 117, 118, 119, 120, 121, 122, 123, 124, 125, 126, 127, 128, 129, 130, 131, 132, 133, 134, 135, 136] (by decide +kernel) (by decide +kernel)
set_option maxRecDepth 20000 in
theorem gX6_setRevoked_X6_beginChange : GoodIn wsX6_setRevoked (wsV RX6 56 RX6 yX6_beginChange wsX6_beginChange) := goodIn_app (goodIn_of _ (by decide +kernel)) ggX6_setRevoked_X6_beginChange
set_option maxRecDepth 20000 in
theorem ggX6_setRevoked_X6_revokeOrRestore : GoodIn wsX6_setRevoked wsX6_revokeOrRestore := goodIn_ca (goodIn_r _ [42, 7, 43, 44, 45, 11, 46, 14, 47, 48, 4, 49, 50, 51, 52, 53, 54, 55, 56, 57, 58, 59, 60, 22, 61, 62, 63, 64, 15, 65, 66, 67, 68, 20, 16, 13, 17, 18, 19, 69, 70, 71, 28, 72, 30, 73, 74, 75, 76, 77, 78, 79, 80, 81, 82, 83, 112, 113, 114, 115, 116, 117, 118, 119, 120, 121, 122, 123, 124, 125, 126, 127, 128, 129, 130, 131, 132, 133, 134, 135, 136] (by decide +kernel) (by decide +kernel)) (goodIn_sub (fun _ h => List.mem_cons_of_mem _ (List.mem_append_left _ (List.mem_append_left _ (List.mem_append_left _ (List.mem_append_right _ h))))) (by decide +kernel))
set_option maxRecDepth 20000 in
theorem gX6_setRevoked_X6_revokeOrRestore : GoodIn wsX6_setRevoked (wsV RX6 70 RX6 yX6_revokeOrRestore wsX6_revokeOrRestore) := goodIn_app (goodIn_of _ (by decide +kernel)) ggX6_setRevoked_X6_revokeOrRestore
set_option maxRecDepth 20000 in
theorem ggX6_setRevoked_X6_endChange : GoodIn wsX6_setRevoked wsX6_endChange := goodIn_ca (goodIn_ca (goodIn_ca (goodIn_r _ [87, 88, 89, 90, 91, 92, 93, 94, 6, 95, 96, 97, 98, 99, 100, 101, 102, 103, 104, 105, 106, 107, 108, 109, 110, 111, 9, 10, 11, 12, 13, 14, 15, 16, 17, 18, 19, 20, 21, 22, 23, 24, 25, 26, 27, 28, 29, 30, 31, 32, 33, 34, 35, 36, 37, 38, 112, 113, 114, 115, 116, 117, 118, 119, 120, 121, 122, 123, 137, 138, 139, 124, 125, 126, 127, 128, 129, 130, 131, 132, 133, 134, 135, 136] (by decide +kernel) (by decide +kernel)) (goodIn_sub (fun _ h => List.mem_cons_of_mem _ (List.mem_append_left _ (List.mem_append_left _ (List.mem_append_right _ h)))) (by decide +kernel))) (goodIn_sub (fun _ h => List.mem_cons_of_mem _ (List.mem_append_left _ (List.mem_append_right _ h))) (by decide +kernel))) (goodIn_sub (fun _ h => List.mem_cons_of_mem _ (List.mem_append_right _ h)) (by decide +kernel))
set_option maxRecDepth 20000 in
theorem gX6_setRevoked_X6_endChange : GoodIn wsX6_setRevoked (wsV RX6 63 RX6 yX6_endChange wsX6_endChange) := goodIn_app (goodIn_of _ (by decide +kernel)) ggX6_setRevoked_X6_endChange
theorem dX6_setRevoked_0 : decode cX6_setRevoked 0 = .ok (.aload_n 0, 1) := by decide +kernel
theorem dX6_setRevoked_1 : decode cX6_setRevoked 1 = .ok (.invokevirtual 56, 3) := by decide +kernel
theorem dX6_setRevoked_4 : decode cX6_setRevoked 4 = .ok (.aload_n 0, 1) := by decide +kernel
theorem dX6_setRevoked_5 : decode cX6_setRevoked 5 = .ok (.aload_n 0, 1) := by decide +kernel
theorem dX6_setRevoked_6 : decode cX6_setRevoked 6 = .ok (.iload_n 1, 1) := by decide +kernel
theorem dX6_setRevoked_7 : decode cX6_setRevoked 7 = .ok (.iload_n 2, 1) := by decide +kernel
theorem dX6_setRevoked_8 : decode cX6_setRevoked 8 = .ok (.invokevirtual 70, 3) := by decide +kernel
theorem dX6_setRevoked_11 : decode cX6_setRevoked 11 = .ok (.invokevirtual 63, 3) := by decide +kernel
theorem dX6_setRevoked_14 : decode cX6_setRevoked 14 = .ok (.ireturn, 1) := by decide +kernel
theorem dX6_scarecrowCount_0 : decode cX6_scarecrowCount 0 = .ok (.aload_n 0, 1) := by decide +kernel
theorem dX6_scarecrowCount_1 : decode cX6_scarecrowCount 1 = .ok (.getfield 10, 3) := by decide +kernel
theorem dX6_scarecrowCount_4 : decode cX6_scarecrowCount 4 = .ok (.getfield 74, 3) := by decide +kernel
theorem dX6_scarecrowCount_7 : decode cX6_scarecrowCount 7 = .ok (.ireturn, 1) := by decide +kernel
set_option maxRecDepth 20000 in
theorem ggX6_fieldOf_X6_requireScarecrow : GoodIn wsX6_fieldOf wsX6_requireScarecrow := goodIn_ca (goodIn_r _ [6, 7, 8, 1, 9, 10, 11, 12, 13, 14, 21, 22, 23, 24, 25, 26, 27, 28, 29, 30, 31, 32, 33, 34, 35, 36, 37, 38, 39, 40, 41, 42, 43, 44] (by decide +kernel) (by decide +kernel)) (goodIn_sub (fun _ h => List.mem_cons_of_mem _ (List.mem_append_left _ (List.mem_append_right _ h))) (by decide +kernel))
set_option maxRecDepth 20000 in
theorem gX6_fieldOf_X6_requireScarecrow : GoodIn wsX6_fieldOf (wsV RX6 77 RX6 yX6_requireScarecrow wsX6_requireScarecrow) := goodIn_app (goodIn_of _ (by decide +kernel)) ggX6_fieldOf_X6_requireScarecrow
set_option maxRecDepth 20000 in
theorem ggX6_fieldOf_X4_get : GoodIn wsX6_fieldOf wsX4_get := goodIn_ca (goodIn_r _ [19, 20, 45] (by decide +kernel) (by decide +kernel)) (goodIn_sub (fun _ h => List.mem_cons_of_mem _ (List.mem_append_right _ h)) (by decide +kernel))
set_option maxRecDepth 20000 in
theorem gX6_fieldOf_X4_get : GoodIn wsX6_fieldOf (wsV RX6 85 RX4 yX4_get wsX4_get) := goodIn_app (goodIn_of _ (by decide +kernel)) ggX6_fieldOf_X4_get
theorem dX6_fieldOf_0 : decode cX6_fieldOf 0 = .ok (.aload_n 0, 1) := by decide +kernel
theorem dX6_fieldOf_1 : decode cX6_fieldOf 1 = .ok (.iload_n 1, 1) := by decide +kernel
theorem dX6_fieldOf_2 : decode cX6_fieldOf 2 = .ok (.invokevirtual 77, 3) := by decide +kernel
theorem dX6_fieldOf_5 : decode cX6_fieldOf 5 = .ok (.aload_n 0, 1) := by decide +kernel
theorem dX6_fieldOf_6 : decode cX6_fieldOf 6 = .ok (.getfield 10, 3) := by decide +kernel
theorem dX6_fieldOf_9 : decode cX6_fieldOf 9 = .ok (.getfield 81, 3) := by decide +kernel
theorem dX6_fieldOf_12 : decode cX6_fieldOf 12 = .ok (.iload_n 1, 1) := by decide +kernel
theorem dX6_fieldOf_13 : decode cX6_fieldOf 13 = .ok (.invokevirtual 85, 3) := by decide +kernel
theorem dX6_fieldOf_16 : decode cX6_fieldOf 16 = .ok (.ireturn, 1) := by decide +kernel
set_option maxRecDepth 20000 in
theorem ggX6_scarecrowOn_X6_requireField : GoodIn wsX6_scarecrowOn wsX6_requireField := goodIn_ca (goodIn_r _ [7, 8, 9, 10, 11, 6, 12] (by decide +kernel) (by decide +kernel)) (goodIn_sub (fun _ h => List.mem_cons_of_mem _ (List.mem_append_left _ (List.mem_append_right _ h))) (by decide +kernel))
set_option maxRecDepth 20000 in
theorem gX6_scarecrowOn_X6_requireField : GoodIn wsX6_scarecrowOn (va_wsS RX6 90 yX6_requireField wsX6_requireField) := goodIn_app (goodIn_of _ (by decide +kernel)) ggX6_scarecrowOn_X6_requireField
set_option maxRecDepth 20000 in
theorem ggX6_scarecrowOn_X5_scarecrowAt : GoodIn wsX6_scarecrowOn wsX5_scarecrowAt := goodIn_ca (goodIn_r _ [17, 18, 19, 20, 21, 22, 23, 24, 25, 38, 39, 40, 41, 42, 43, 44, 45, 46, 47, 48, 49, 50] (by decide +kernel) (by decide +kernel)) (goodIn_sub (fun _ h => List.mem_cons_of_mem _ (List.mem_append_right _ h)) (by decide +kernel))
set_option maxRecDepth 20000 in
theorem gX6_scarecrowOn_X5_scarecrowAt : GoodIn wsX6_scarecrowOn (wsV RX6 93 RX5 yX5_scarecrowAt wsX5_scarecrowAt) := goodIn_app (goodIn_of _ (by decide +kernel)) ggX6_scarecrowOn_X5_scarecrowAt
theorem dX6_scarecrowOn_0 : decode cX6_scarecrowOn 0 = .ok (.iload_n 1, 1) := by decide +kernel
theorem dX6_scarecrowOn_1 : decode cX6_scarecrowOn 1 = .ok (.invokestatic 90, 3) := by decide +kernel
theorem dX6_scarecrowOn_4 : decode cX6_scarecrowOn 4 = .ok (.aload_n 0, 1) := by decide +kernel
theorem dX6_scarecrowOn_5 : decode cX6_scarecrowOn 5 = .ok (.getfield 10, 3) := by decide +kernel
theorem dX6_scarecrowOn_8 : decode cX6_scarecrowOn 8 = .ok (.iload_n 1, 1) := by decide +kernel
theorem dX6_scarecrowOn_9 : decode cX6_scarecrowOn 9 = .ok (.invokevirtual 93, 3) := by decide +kernel
theorem dX6_scarecrowOn_12 : decode cX6_scarecrowOn 12 = .ok (.istore_n 2, 1) := by decide +kernel
theorem dX6_scarecrowOn_13 : decode cX6_scarecrowOn 13 = .ok (.iload_n 2, 1) := by decide +kernel
theorem dX6_scarecrowOn_14 : decode cX6_scarecrowOn 14 = .ok (.iconst (-1), 1) := by decide +kernel
theorem dX6_scarecrowOn_15 : decode cX6_scarecrowOn 15 = .ok (.if_icmp .ne 13, 3) := by decide +kernel
theorem dX6_scarecrowOn_18 : decode cX6_scarecrowOn 18 = .ok (.new 96, 3) := by decide +kernel
theorem dX6_scarecrowOn_21 : decode cX6_scarecrowOn 21 = .ok (.dup, 1) := by decide +kernel
theorem dX6_scarecrowOn_22 : decode cX6_scarecrowOn 22 = .ok (.ldc 98, 2) := by decide +kernel
theorem dX6_scarecrowOn_24 : decode cX6_scarecrowOn 24 = .ok (.invokespecial 100, 3) := by decide +kernel
theorem dX6_scarecrowOn_27 : decode cX6_scarecrowOn 27 = .ok (.athrow, 1) := by decide +kernel
theorem dX6_scarecrowOn_28 : decode cX6_scarecrowOn 28 = .ok (.iload_n 2, 1) := by decide +kernel
theorem dX6_scarecrowOn_29 : decode cX6_scarecrowOn 29 = .ok (.ireturn, 1) := by decide +kernel
set_option maxRecDepth 20000 in
theorem ggX6_isRevoked_X6_requireScarecrow : GoodIn wsX6_isRevoked wsX6_requireScarecrow := goodIn_ca (goodIn_r _ [6, 7, 8, 1, 9, 10, 11, 12, 13, 14, 18, 19, 20, 21, 22, 23, 24, 25, 26, 27, 28, 29, 30, 31, 32, 33, 34, 35, 36, 37, 38, 39, 40, 41] (by decide +kernel) (by decide +kernel)) (goodIn_sub (fun _ h => List.mem_cons_of_mem _ (List.mem_append_right _ h)) (by decide +kernel))
set_option maxRecDepth 20000 in
theorem gX6_isRevoked_X6_requireScarecrow : GoodIn wsX6_isRevoked (wsV RX6 77 RX6 yX6_requireScarecrow wsX6_requireScarecrow) := goodIn_app (goodIn_of _ (by decide +kernel)) ggX6_isRevoked_X6_requireScarecrow
set_option maxRecDepth 20000 in
theorem ggX6_isRevoked_X6_has : GoodIn wsX6_isRevoked wsX6_has := goodIn_r _ [17] (by decide +kernel) (by decide +kernel)
set_option maxRecDepth 20000 in
theorem gX6_isRevoked_X6_has : GoodIn wsX6_isRevoked (va_wsS RX6 106 yX6_has wsX6_has) := goodIn_app (goodIn_of _ (by decide +kernel)) ggX6_isRevoked_X6_has
theorem dX6_isRevoked_0 : decode cX6_isRevoked 0 = .ok (.aload_n 0, 1) := by decide +kernel
theorem dX6_isRevoked_1 : decode cX6_isRevoked 1 = .ok (.iload_n 1, 1) := by decide +kernel
theorem dX6_isRevoked_2 : decode cX6_isRevoked 2 = .ok (.invokevirtual 77, 3) := by decide +kernel
theorem dX6_isRevoked_5 : decode cX6_isRevoked 5 = .ok (.aload_n 0, 1) := by decide +kernel
theorem dX6_isRevoked_6 : decode cX6_isRevoked 6 = .ok (.getfield 10, 3) := by decide +kernel
theorem dX6_isRevoked_9 : decode cX6_isRevoked 9 = .ok (.getfield 103, 3) := by decide +kernel
theorem dX6_isRevoked_12 : decode cX6_isRevoked 12 = .ok (.iload_n 1, 1) := by decide +kernel
theorem dX6_isRevoked_13 : decode cX6_isRevoked 13 = .ok (.invokestatic 106, 3) := by decide +kernel
theorem dX6_isRevoked_16 : decode cX6_isRevoked 16 = .ok (.ireturn, 1) := by decide +kernel
set_option maxRecDepth 20000 in
theorem ggX6_isCertified_X6_requireScarecrow : GoodIn wsX6_isCertified wsX6_requireScarecrow := goodIn_ca (goodIn_r _ [6, 7, 8, 1, 9, 10, 11, 12, 13, 14, 48, 49, 50, 51, 52, 53, 54, 55, 56, 57, 58, 59, 60, 61, 62, 63, 64, 65, 66, 67, 68, 69, 70, 71] (by decide +kernel) (by decide +kernel)) (goodIn_sub (fun _ h => List.mem_cons_of_mem _ (List.mem_append_left _ (List.mem_append_right _ h))) (by decide +kernel))
set_option maxRecDepth 20000 in
theorem gX6_isCertified_X6_requireScarecrow : GoodIn wsX6_isCertified (wsV RX6 77 RX6 yX6_requireScarecrow wsX6_requireScarecrow) := goodIn_app (goodIn_of _ (by decide +kernel)) ggX6_isCertified_X6_requireScarecrow
set_option maxRecDepth 20000 in
theorem ggX6_isCertified_X5_certifiedNow : GoodIn wsX6_isCertified wsX5_certifiedNow := goodIn_ca (goodIn_r _ [18, 19, 20, 21, 22, 12, 23, 24, 25, 26, 27, 28, 29, 30, 31, 32, 33, 34, 35, 36, 37, 38, 39, 40, 41, 5, 42, 43, 44, 45, 46, 60, 61, 62, 63, 64, 65, 66, 67, 68, 69, 70, 71, 72] (by decide +kernel) (by decide +kernel)) (goodIn_sub (fun _ h => List.mem_cons_of_mem _ (List.mem_append_right _ h)) (by decide +kernel))
set_option maxRecDepth 20000 in
theorem gX6_isCertified_X5_certifiedNow : GoodIn wsX6_isCertified (wsV RX6 110 RX5 yX5_certifiedNow wsX5_certifiedNow) := goodIn_app (goodIn_of _ (by decide +kernel)) ggX6_isCertified_X5_certifiedNow
set_option maxRecDepth 20000 in
theorem ggX6_isCertified_X6_has : GoodIn wsX6_isCertified wsX6_has := goodIn_r _ [42] (by decide +kernel) (by decide +kernel)
set_option maxRecDepth 20000 in
theorem gX6_isCertified_X6_has : GoodIn wsX6_isCertified (va_wsS RX6 106 yX6_has wsX6_has) := goodIn_app (goodIn_of _ (by decide +kernel)) ggX6_isCertified_X6_has
theorem dX6_isCertified_0 : decode cX6_isCertified 0 = .ok (.aload_n 0, 1) := by decide +kernel
theorem dX6_isCertified_1 : decode cX6_isCertified 1 = .ok (.iload_n 1, 1) := by decide +kernel
theorem dX6_isCertified_2 : decode cX6_isCertified 2 = .ok (.invokevirtual 77, 3) := by decide +kernel
theorem dX6_isCertified_5 : decode cX6_isCertified 5 = .ok (.aload_n 0, 1) := by decide +kernel
theorem dX6_isCertified_6 : decode cX6_isCertified 6 = .ok (.getfield 10, 3) := by decide +kernel
theorem dX6_isCertified_9 : decode cX6_isCertified 9 = .ok (.invokevirtual 110, 3) := by decide +kernel
theorem dX6_isCertified_12 : decode cX6_isCertified 12 = .ok (.iload_n 1, 1) := by decide +kernel
theorem dX6_isCertified_13 : decode cX6_isCertified 13 = .ok (.invokestatic 106, 3) := by decide +kernel
theorem dX6_isCertified_16 : decode cX6_isCertified 16 = .ok (.ireturn, 1) := by decide +kernel
set_option maxRecDepth 20000 in
theorem ggX6_isCertifiedByChains_X6_requireScarecrow : GoodIn wsX6_isCertifiedByChains wsX6_requireScarecrow := goodIn_ca (goodIn_r _ [6, 7, 8, 1, 9, 10, 11, 12, 13, 14, 33, 34, 35, 36, 37, 38, 39, 40, 41, 42, 43, 44, 45, 46, 47, 48, 49, 50, 51, 52, 53, 54, 55, 56] (by decide +kernel) (by decide +kernel)) (goodIn_sub (fun _ h => List.mem_cons_of_mem _ (List.mem_append_left _ (List.mem_append_right _ h))) (by decide +kernel))
set_option maxRecDepth 20000 in
theorem gX6_isCertifiedByChains_X6_requireScarecrow : GoodIn wsX6_isCertifiedByChains (wsV RX6 77 RX6 yX6_requireScarecrow wsX6_requireScarecrow) := goodIn_app (goodIn_of _ (by decide +kernel)) ggX6_isCertifiedByChains_X6_requireScarecrow
set_option maxRecDepth 20000 in
theorem ggX6_isCertifiedByChains_X5_leadsBackToRegistry : GoodIn wsX6_isCertifiedByChains wsX5_leadsBackToRegistry := goodIn_ca (goodIn_r _ [18, 19, 20, 21, 22, 23, 24, 25, 26, 27, 28, 29, 30, 31, 5, 32, 45, 46, 47, 48, 49, 50, 51, 52, 53, 54, 55, 56, 57] (by decide +kernel) (by decide +kernel)) (goodIn_sub (fun _ h => List.mem_cons_of_mem _ (List.mem_append_right _ h)) (by decide +kernel))
set_option maxRecDepth 20000 in
theorem gX6_isCertifiedByChains_X5_leadsBackToRegistry : GoodIn wsX6_isCertifiedByChains (wsV RX6 114 RX5 yX5_leadsBackToRegistry wsX5_leadsBackToRegistry) := goodIn_app (goodIn_of _ (by decide +kernel)) ggX6_isCertifiedByChains_X5_leadsBackToRegistry
theorem dX6_isCertifiedByChains_0 : decode cX6_isCertifiedByChains 0 = .ok (.aload_n 0, 1) := by decide +kernel
theorem dX6_isCertifiedByChains_1 : decode cX6_isCertifiedByChains 1 = .ok (.iload_n 1, 1) := by decide +kernel
theorem dX6_isCertifiedByChains_2 : decode cX6_isCertifiedByChains 2 = .ok (.invokevirtual 77, 3) := by decide +kernel
theorem dX6_isCertifiedByChains_5 : decode cX6_isCertifiedByChains 5 = .ok (.aload_n 0, 1) := by decide +kernel
theorem dX6_isCertifiedByChains_6 : decode cX6_isCertifiedByChains 6 = .ok (.getfield 10, 3) := by decide +kernel
theorem dX6_isCertifiedByChains_9 : decode cX6_isCertifiedByChains 9 = .ok (.iload_n 1, 1) := by decide +kernel
theorem dX6_isCertifiedByChains_10 : decode cX6_isCertifiedByChains 10 = .ok (.invokevirtual 114, 3) := by decide +kernel
theorem dX6_isCertifiedByChains_13 : decode cX6_isCertifiedByChains 13 = .ok (.ireturn, 1) := by decide +kernel
set_option maxRecDepth 20000 in
theorem ggX6_chainLength_X6_requireScarecrow : GoodIn wsX6_chainLength wsX6_requireScarecrow := goodIn_ca (goodIn_r _ [8, 9, 10, 3, 11, 12, 13, 14, 15, 16, 45, 46, 47, 48, 49, 50, 51, 52, 53, 54, 55, 56, 57, 58, 59, 60, 61, 62, 63, 64, 65, 66, 67, 68] (by decide +kernel) (by decide +kernel)) (goodIn_sub (fun _ h => List.mem_cons_of_mem _ (List.mem_append_left _ (List.mem_append_right _ h))) (by decide +kernel))
set_option maxRecDepth 20000 in
theorem gX6_chainLength_X6_requireScarecrow : GoodIn wsX6_chainLength (wsV RX6 77 RX6 yX6_requireScarecrow wsX6_requireScarecrow) := goodIn_app (goodIn_of _ (by decide +kernel)) ggX6_chainLength_X6_requireScarecrow
set_option maxRecDepth 20000 in
theorem ggX6_chainLength_X5_certifiedWithin : GoodIn wsX6_chainLength wsX5_certifiedWithin := goodIn_ca (goodIn_r _ [20, 21, 22, 23, 24, 14, 25, 26, 27, 28, 29, 30, 31, 32, 33, 34, 35, 36, 37, 38, 7, 39, 40, 41, 42, 43, 57, 58, 59, 60, 61, 62, 63, 64, 65, 66, 67, 68, 69] (by decide +kernel) (by decide +kernel)) (goodIn_sub (fun _ h => List.mem_cons_of_mem _ (List.mem_append_right _ h)) (by decide +kernel))
set_option maxRecDepth 20000 in
theorem gX6_chainLength_X5_certifiedWithin : GoodIn wsX6_chainLength (wsV RX6 121 RX5 yX5_certifiedWithin wsX5_certifiedWithin) := goodIn_app (goodIn_of _ (by decide +kernel)) ggX6_chainLength_X5_certifiedWithin
set_option maxRecDepth 20000 in
theorem ggX6_chainLength_X6_has : GoodIn wsX6_chainLength wsX6_has := goodIn_r _ [39] (by decide +kernel) (by decide +kernel)
set_option maxRecDepth 20000 in
theorem gX6_chainLength_X6_has : GoodIn wsX6_chainLength (va_wsS RX6 106 yX6_has wsX6_has) := goodIn_app (goodIn_of _ (by decide +kernel)) ggX6_chainLength_X6_has
theorem dX6_chainLength_0 : decode cX6_chainLength 0 = .ok (.aload_n 0, 1) := by decide +kernel
theorem dX6_chainLength_1 : decode cX6_chainLength 1 = .ok (.iload_n 1, 1) := by decide +kernel
theorem dX6_chainLength_2 : decode cX6_chainLength 2 = .ok (.invokevirtual 77, 3) := by decide +kernel
theorem dX6_chainLength_5 : decode cX6_chainLength 5 = .ok (.iconst 1, 1) := by decide +kernel
theorem dX6_chainLength_6 : decode cX6_chainLength 6 = .ok (.istore_n 2, 1) := by decide +kernel
theorem dX6_chainLength_7 : decode cX6_chainLength 7 = .ok (.iload_n 2, 1) := by decide +kernel
theorem dX6_chainLength_8 : decode cX6_chainLength 8 = .ok (.bipush 10, 2) := by decide +kernel
theorem dX6_chainLength_10 : decode cX6_chainLength 10 = .ok (.if_icmp .gt 33, 3) := by decide +kernel
theorem dX6_chainLength_13 : decode cX6_chainLength 13 = .ok (.aload_n 0, 1) := by decide +kernel
theorem dX6_chainLength_14 : decode cX6_chainLength 14 = .ok (.getfield 10, 3) := by decide +kernel
theorem dX6_chainLength_17 : decode cX6_chainLength 17 = .ok (.iload_n 2, 1) := by decide +kernel
theorem dX6_chainLength_18 : decode cX6_chainLength 18 = .ok (.aload_n 0, 1) := by decide +kernel
theorem dX6_chainLength_19 : decode cX6_chainLength 19 = .ok (.getfield 10, 3) := by decide +kernel
theorem dX6_chainLength_22 : decode cX6_chainLength 22 = .ok (.getfield 118, 3) := by decide +kernel
theorem dX6_chainLength_25 : decode cX6_chainLength 25 = .ok (.invokevirtual 121, 3) := by decide +kernel
theorem dX6_chainLength_28 : decode cX6_chainLength 28 = .ok (.iload_n 1, 1) := by decide +kernel
theorem dX6_chainLength_29 : decode cX6_chainLength 29 = .ok (.invokestatic 106, 3) := by decide +kernel
theorem dX6_chainLength_32 : decode cX6_chainLength 32 = .ok (.ifCond .eq 5, 3) := by decide +kernel
theorem dX6_chainLength_35 : decode cX6_chainLength 35 = .ok (.iload_n 2, 1) := by decide +kernel
theorem dX6_chainLength_36 : decode cX6_chainLength 36 = .ok (.ireturn, 1) := by decide +kernel
theorem dX6_chainLength_37 : decode cX6_chainLength 37 = .ok (.iinc 2 1, 3) := by decide +kernel
theorem dX6_chainLength_40 : decode cX6_chainLength 40 = .ok (.goto (-33), 3) := by decide +kernel
theorem dX6_chainLength_43 : decode cX6_chainLength 43 = .ok (.new 96, 3) := by decide +kernel
theorem dX6_chainLength_46 : decode cX6_chainLength 46 = .ok (.dup, 1) := by decide +kernel
theorem dX6_chainLength_47 : decode cX6_chainLength 47 = .ok (.ldc 124, 2) := by decide +kernel
theorem dX6_chainLength_49 : decode cX6_chainLength 49 = .ok (.invokespecial 100, 3) := by decide +kernel
theorem dX6_chainLength_52 : decode cX6_chainLength 52 = .ok (.athrow, 1) := by decide +kernel
set_option maxRecDepth 20000 in
theorem ggX6_daysUntilUncertified_X6_requireScarecrow : GoodIn wsX6_daysUntilUncertified wsX6_requireScarecrow := goodIn_ca (goodIn_r _ [6, 7, 8, 1, 9, 10, 11, 12, 13, 14, 43, 44, 45, 46, 47, 48, 49, 50, 51, 52, 53, 54, 55, 56, 57, 58, 59, 60, 61, 62, 63, 64, 65, 66] (by decide +kernel) (by decide +kernel)) (goodIn_sub (fun _ h => List.mem_cons_of_mem _ (List.mem_append_left _ (List.mem_append_right _ h))) (by decide +kernel))
set_option maxRecDepth 20000 in
theorem gX6_daysUntilUncertified_X6_requireScarecrow : GoodIn wsX6_daysUntilUncertified (wsV RX6 77 RX6 yX6_requireScarecrow wsX6_requireScarecrow) := goodIn_app (goodIn_of _ (by decide +kernel)) ggX6_daysUntilUncertified_X6_requireScarecrow
set_option maxRecDepth 20000 in
theorem ggX6_daysUntilUncertified_X5_certifiedWithin : GoodIn wsX6_daysUntilUncertified wsX5_certifiedWithin := goodIn_ca (goodIn_r _ [18, 19, 20, 21, 22, 12, 23, 24, 25, 26, 27, 28, 29, 30, 31, 32, 33, 34, 35, 36, 5, 37, 38, 39, 40, 41, 55, 56, 57, 58, 59, 60, 61, 62, 63, 64, 65, 66, 67] (by decide +kernel) (by decide +kernel)) (goodIn_sub (fun _ h => List.mem_cons_of_mem _ (List.mem_append_right _ h)) (by decide +kernel))
set_option maxRecDepth 20000 in
theorem gX6_daysUntilUncertified_X5_certifiedWithin : GoodIn wsX6_daysUntilUncertified (wsV RX6 121 RX5 yX5_certifiedWithin wsX5_certifiedWithin) := goodIn_app (goodIn_of _ (by decide +kernel)) ggX6_daysUntilUncertified_X5_certifiedWithin
set_option maxRecDepth 20000 in
theorem ggX6_daysUntilUncertified_X6_has : GoodIn wsX6_daysUntilUncertified wsX6_has := goodIn_r _ [37] (by decide +kernel) (by decide +kernel)
set_option maxRecDepth 20000 in
theorem gX6_daysUntilUncertified_X6_has : GoodIn wsX6_daysUntilUncertified (va_wsS RX6 106 yX6_has wsX6_has) := goodIn_app (goodIn_of _ (by decide +kernel)) ggX6_daysUntilUncertified_X6_has
theorem dX6_daysUntilUncertified_0 : decode cX6_daysUntilUncertified 0 = .ok (.aload_n 0, 1) := by decide +kernel
theorem dX6_daysUntilUncertified_1 : decode cX6_daysUntilUncertified 1 = .ok (.iload_n 1, 1) := by decide +kernel
theorem dX6_daysUntilUncertified_2 : decode cX6_daysUntilUncertified 2 = .ok (.invokevirtual 77, 3) := by decide +kernel
theorem dX6_daysUntilUncertified_5 : decode cX6_daysUntilUncertified 5 = .ok (.iconst 0, 1) := by decide +kernel
theorem dX6_daysUntilUncertified_6 : decode cX6_daysUntilUncertified 6 = .ok (.istore_n 2, 1) := by decide +kernel
theorem dX6_daysUntilUncertified_7 : decode cX6_daysUntilUncertified 7 = .ok (.iload_n 2, 1) := by decide +kernel
theorem dX6_daysUntilUncertified_8 : decode cX6_daysUntilUncertified 8 = .ok (.bipush 99, 2) := by decide +kernel
theorem dX6_daysUntilUncertified_10 : decode cX6_daysUntilUncertified 10 = .ok (.if_icmp .gt 36, 3) := by decide +kernel
theorem dX6_daysUntilUncertified_13 : decode cX6_daysUntilUncertified 13 = .ok (.aload_n 0, 1) := by decide +kernel
theorem dX6_daysUntilUncertified_14 : decode cX6_daysUntilUncertified 14 = .ok (.getfield 10, 3) := by decide +kernel
theorem dX6_daysUntilUncertified_17 : decode cX6_daysUntilUncertified 17 = .ok (.bipush 10, 2) := by decide +kernel
theorem dX6_daysUntilUncertified_19 : decode cX6_daysUntilUncertified 19 = .ok (.aload_n 0, 1) := by decide +kernel
theorem dX6_daysUntilUncertified_20 : decode cX6_daysUntilUncertified 20 = .ok (.getfield 10, 3) := by decide +kernel
theorem dX6_daysUntilUncertified_23 : decode cX6_daysUntilUncertified 23 = .ok (.getfield 118, 3) := by decide +kernel
theorem dX6_daysUntilUncertified_26 : decode cX6_daysUntilUncertified 26 = .ok (.iload_n 2, 1) := by decide +kernel
theorem dX6_daysUntilUncertified_27 : decode cX6_daysUntilUncertified 27 = .ok (.iadd, 1) := by decide +kernel
theorem dX6_daysUntilUncertified_28 : decode cX6_daysUntilUncertified 28 = .ok (.invokevirtual 121, 3) := by decide +kernel
theorem dX6_daysUntilUncertified_31 : decode cX6_daysUntilUncertified 31 = .ok (.iload_n 1, 1) := by decide +kernel
theorem dX6_daysUntilUncertified_32 : decode cX6_daysUntilUncertified 32 = .ok (.invokestatic 106, 3) := by decide +kernel
theorem dX6_daysUntilUncertified_35 : decode cX6_daysUntilUncertified 35 = .ok (.ifCond .ne 5, 3) := by decide +kernel
theorem dX6_daysUntilUncertified_38 : decode cX6_daysUntilUncertified 38 = .ok (.iload_n 2, 1) := by decide +kernel
theorem dX6_daysUntilUncertified_39 : decode cX6_daysUntilUncertified 39 = .ok (.ireturn, 1) := by decide +kernel
theorem dX6_daysUntilUncertified_40 : decode cX6_daysUntilUncertified 40 = .ok (.iinc 2 1, 3) := by decide +kernel
theorem dX6_daysUntilUncertified_43 : decode cX6_daysUntilUncertified 43 = .ok (.goto (-36), 3) := by decide +kernel
theorem dX6_daysUntilUncertified_46 : decode cX6_daysUntilUncertified 46 = .ok (.bipush 100, 2) := by decide +kernel
theorem dX6_daysUntilUncertified_48 : decode cX6_daysUntilUncertified 48 = .ok (.ireturn, 1) := by decide +kernel
set_option maxRecDepth 20000 in
theorem ggX6_scarecrowByCertificates_X5_inForceNow : GoodIn wsX6_scarecrowByCertificates wsX5_inForceNow := goodIn_ca (goodIn_r _ [8, 9, 10, 11, 12, 7, 13, 14, 15, 16, 17, 18, 19, 20, 21, 22, 23, 24, 25, 26, 27, 28, 29, 30, 31, 32, 33, 34, 35, 36, 37, 38, 39, 40, 41, 63, 64, 65, 66, 67, 68, 69, 70, 71, 72, 73, 74, 75] (by decide +kernel) (by decide +kernel)) (goodIn_sub (fun _ h => List.mem_cons_of_mem _ (List.mem_append_right _ h)) (by decide +kernel))
set_option maxRecDepth 20000 in
theorem gX6_scarecrowByCertificates_X5_inForceNow : GoodIn wsX6_scarecrowByCertificates (wsV RX6 126 RX5 yX5_inForceNow wsX5_inForceNow) := goodIn_app (goodIn_of _ (by decide +kernel)) ggX6_scarecrowByCertificates_X5_inForceNow
set_option maxRecDepth 20000 in
theorem ggX6_scarecrowByCertificates_X5_rankOf : GoodIn wsX6_scarecrowByCertificates wsX5_rankOf := goodIn_ca (goodIn_r _ [45, 46, 47, 48, 49, 7, 50, 23, 26, 35, 36, 37, 29, 30, 31, 32, 33, 34, 63, 64, 65, 66, 67, 68, 69, 70, 71, 72, 73, 74, 75] (by decide +kernel) (by decide +kernel)) (goodIn_sub (fun _ h => List.mem_cons_of_mem _ (List.mem_append_right _ h)) (by decide +kernel))
set_option maxRecDepth 20000 in
theorem gX6_scarecrowByCertificates_X5_rankOf : GoodIn wsX6_scarecrowByCertificates (wsV RX6 129 RX5 yX5_rankOf wsX5_rankOf) := goodIn_app (goodIn_of _ (by decide +kernel)) ggX6_scarecrowByCertificates_X5_rankOf
theorem dX6_scarecrowByCertificates_0 : decode cX6_scarecrowByCertificates 0 = .ok (.aload_n 0, 1) := by decide +kernel
theorem dX6_scarecrowByCertificates_1 : decode cX6_scarecrowByCertificates 1 = .ok (.getfield 10, 3) := by decide +kernel
theorem dX6_scarecrowByCertificates_4 : decode cX6_scarecrowByCertificates 4 = .ok (.invokevirtual 126, 3) := by decide +kernel
theorem dX6_scarecrowByCertificates_7 : decode cX6_scarecrowByCertificates 7 = .ok (.istore_n 2, 1) := by decide +kernel
theorem dX6_scarecrowByCertificates_8 : decode cX6_scarecrowByCertificates 8 = .ok (.iconst 0, 1) := by decide +kernel
theorem dX6_scarecrowByCertificates_9 : decode cX6_scarecrowByCertificates 9 = .ok (.istore_n 3, 1) := by decide +kernel
theorem dX6_scarecrowByCertificates_10 : decode cX6_scarecrowByCertificates 10 = .ok (.iload_n 3, 1) := by decide +kernel
theorem dX6_scarecrowByCertificates_11 : decode cX6_scarecrowByCertificates 11 = .ok (.aload_n 0, 1) := by decide +kernel
theorem dX6_scarecrowByCertificates_12 : decode cX6_scarecrowByCertificates 12 = .ok (.getfield 10, 3) := by decide +kernel
theorem dX6_scarecrowByCertificates_15 : decode cX6_scarecrowByCertificates 15 = .ok (.getfield 74, 3) := by decide +kernel
theorem dX6_scarecrowByCertificates_18 : decode cX6_scarecrowByCertificates 18 = .ok (.if_icmp .ge 24, 3) := by decide +kernel
theorem dX6_scarecrowByCertificates_21 : decode cX6_scarecrowByCertificates 21 = .ok (.aload_n 0, 1) := by decide +kernel
theorem dX6_scarecrowByCertificates_22 : decode cX6_scarecrowByCertificates 22 = .ok (.getfield 10, 3) := by decide +kernel
theorem dX6_scarecrowByCertificates_25 : decode cX6_scarecrowByCertificates 25 = .ok (.iload_n 3, 1) := by decide +kernel
theorem dX6_scarecrowByCertificates_26 : decode cX6_scarecrowByCertificates 26 = .ok (.iload_n 2, 1) := by decide +kernel
theorem dX6_scarecrowByCertificates_27 : decode cX6_scarecrowByCertificates 27 = .ok (.invokevirtual 129, 3) := by decide +kernel
theorem dX6_scarecrowByCertificates_30 : decode cX6_scarecrowByCertificates 30 = .ok (.iload_n 1, 1) := by decide +kernel
theorem dX6_scarecrowByCertificates_31 : decode cX6_scarecrowByCertificates 31 = .ok (.if_icmp .ne 5, 3) := by decide +kernel
theorem dX6_scarecrowByCertificates_34 : decode cX6_scarecrowByCertificates 34 = .ok (.iload_n 3, 1) := by decide +kernel
theorem dX6_scarecrowByCertificates_35 : decode cX6_scarecrowByCertificates 35 = .ok (.ireturn, 1) := by decide +kernel
theorem dX6_scarecrowByCertificates_36 : decode cX6_scarecrowByCertificates 36 = .ok (.iinc 3 1, 3) := by decide +kernel
theorem dX6_scarecrowByCertificates_39 : decode cX6_scarecrowByCertificates 39 = .ok (.goto (-29), 3) := by decide +kernel
theorem dX6_scarecrowByCertificates_42 : decode cX6_scarecrowByCertificates 42 = .ok (.new 96, 3) := by decide +kernel
theorem dX6_scarecrowByCertificates_45 : decode cX6_scarecrowByCertificates 45 = .ok (.dup, 1) := by decide +kernel
theorem dX6_scarecrowByCertificates_46 : decode cX6_scarecrowByCertificates 46 = .ok (.ldc 132, 2) := by decide +kernel
theorem dX6_scarecrowByCertificates_48 : decode cX6_scarecrowByCertificates 48 = .ok (.invokespecial 100, 3) := by decide +kernel
theorem dX6_scarecrowByCertificates_51 : decode cX6_scarecrowByCertificates 51 = .ok (.athrow, 1) := by decide +kernel
set_option maxRecDepth 20000 in
theorem ggX6_issueByRegistry_X6_beginChange : GoodIn wsX6_issueByRegistry wsX6_beginChange := goodIn_r _ [5, 6, 7, 8, 9, 10, 11, 12, 13, 14, 15, 16, 17, 18, 19, 20, 21, 22, 23, 24, 25, 26, 27, 28, 29, 30, 31, 32, 33, 34, 35, 36, 37, 38, 97, 98, 99, 100, 101, 102, 103, 104, 105, 106, 107, 108, 109, 110, 111, 112, 113, 114, 115, 116, 117, 118, 119, 120, 121] (by decide +kernel) (by decide +kernel)
set_option maxRecDepth 20000 in
theorem gX6_issueByRegistry_X6_beginChange : GoodIn wsX6_issueByRegistry (wsV RX6 56 RX6 yX6_beginChange wsX6_beginChange) := goodIn_app (goodIn_of _ (by decide +kernel)) ggX6_issueByRegistry_X6_beginChange
set_option maxRecDepth 20000 in
theorem ggX6_issueByRegistry_X6_certifyByRegistry : GoodIn wsX6_issueByRegistry wsX6_certifyByRegistry := goodIn_ca (goodIn_r _ [42, 7, 43, 44, 45, 11, 46, 14, 47, 48, 4, 49, 50, 51, 52, 53, 54, 55, 56, 57, 58, 59, 60, 20, 16, 17, 18, 13, 19, 22, 61, 62, 63, 28, 64, 30, 65, 66, 67, 68, 97, 98, 99, 100, 101, 102, 103, 104, 105, 106, 107, 108, 109, 110, 111, 112, 113, 114, 115, 116, 117, 118, 119, 120, 121] (by decide +kernel) (by decide +kernel)) (goodIn_sub (fun _ h => List.mem_cons_of_mem _ (List.mem_append_left _ (List.mem_append_left _ (List.mem_append_left _ (List.mem_append_right _ h))))) (by decide +kernel))
set_option maxRecDepth 20000 in
theorem gX6_issueByRegistry_X6_certifyByRegistry : GoodIn wsX6_issueByRegistry (wsV RX6 134 RX6 yX6_certifyByRegistry wsX6_certifyByRegistry) := goodIn_app (goodIn_of _ (by decide +kernel)) ggX6_issueByRegistry_X6_certifyByRegistry
set_option maxRecDepth 20000 in
theorem ggX6_issueByRegistry_X6_endChange : GoodIn wsX6_issueByRegistry wsX6_endChange := goodIn_ca (goodIn_ca (goodIn_ca (goodIn_r _ [72, 73, 74, 75, 76, 77, 78, 79, 6, 80, 81, 82, 83, 84, 85, 86, 87, 88, 89, 90, 91, 92, 93, 94, 95, 96, 9, 10, 11, 12, 13, 14, 15, 16, 17, 18, 19, 20, 21, 22, 23, 24, 25, 26, 27, 28, 29, 30, 31, 32, 33, 34, 35, 36, 37, 38, 97, 98, 99, 100, 101, 102, 103, 104, 105, 106, 107, 108, 122, 123, 124, 109, 110, 111, 112, 113, 114, 115, 116, 117, 118, 119, 120, 121] (by decide +kernel) (by decide +kernel)) (goodIn_sub (fun _ h => List.mem_cons_of_mem _ (List.mem_append_left _ (List.mem_append_left _ (List.mem_append_right _ h)))) (by decide +kernel))) (goodIn_sub (fun _ h => List.mem_cons_of_mem _ (List.mem_append_left _ (List.mem_append_right _ h))) (by decide +kernel))) (goodIn_sub (fun _ h => List.mem_cons_of_mem _ (List.mem_append_right _ h)) (by decide +kernel))
set_option maxRecDepth 20000 in
theorem gX6_issueByRegistry_X6_endChange : GoodIn wsX6_issueByRegistry (wsV RX6 63 RX6 yX6_endChange wsX6_endChange) := goodIn_app (goodIn_of _ (by decide +kernel)) ggX6_issueByRegistry_X6_endChange
theorem dX6_issueByRegistry_0 : decode cX6_issueByRegistry 0 = .ok (.aload_n 0, 1) := by decide +kernel
theorem dX6_issueByRegistry_1 : decode cX6_issueByRegistry 1 = .ok (.invokevirtual 56, 3) := by decide +kernel
theorem dX6_issueByRegistry_4 : decode cX6_issueByRegistry 4 = .ok (.aload_n 0, 1) := by decide +kernel
theorem dX6_issueByRegistry_5 : decode cX6_issueByRegistry 5 = .ok (.aload_n 0, 1) := by decide +kernel
theorem dX6_issueByRegistry_6 : decode cX6_issueByRegistry 6 = .ok (.iload_n 1, 1) := by decide +kernel
theorem dX6_issueByRegistry_7 : decode cX6_issueByRegistry 7 = .ok (.iload_n 2, 1) := by decide +kernel
theorem dX6_issueByRegistry_8 : decode cX6_issueByRegistry 8 = .ok (.invokevirtual 134, 3) := by decide +kernel
theorem dX6_issueByRegistry_11 : decode cX6_issueByRegistry 11 = .ok (.invokevirtual 63, 3) := by decide +kernel
theorem dX6_issueByRegistry_14 : decode cX6_issueByRegistry 14 = .ok (.ireturn, 1) := by decide +kernel
set_option maxRecDepth 20000 in
theorem ggX6_issue_X6_beginChange : GoodIn wsX6_issue wsX6_beginChange := goodIn_r _ [5, 6, 7, 8, 9, 10, 11, 12, 13, 14, 15, 16, 17, 18, 19, 20, 21, 22, 23, 24, 25, 26, 27, 28, 29, 30, 31, 32, 33, 34, 35, 36, 37, 38, 116, 117, 118, 119, 120, 121, 122, 123, 124, 125, 126, 127, 128, 129, 130, 131, 132, 133, 134, 135, 136, 137, 138, 139, 140] (by decide +kernel) (by decide +kernel)
set_option maxRecDepth 20000 in
theorem gX6_issue_X6_beginChange : GoodIn wsX6_issue (wsV RX6 56 RX6 yX6_beginChange wsX6_beginChange) := goodIn_app (goodIn_of _ (by decide +kernel)) ggX6_issue_X6_beginChange
set_option maxRecDepth 20000 in
theorem ggX6_issue_X6_certifyByScarecrow : GoodIn wsX6_issue wsX6_certifyByScarecrow := goodIn_ca (goodIn_r _ [42, 7, 43, 44, 45, 11, 46, 14, 47, 48, 4, 49, 50, 51, 52, 53, 54, 55, 56, 57, 58, 59, 60, 22, 61, 62, 63, 64, 15, 65, 66, 67, 68, 20, 16, 13, 17, 18, 19, 69, 70, 71, 28, 72, 30, 73, 74, 75, 76, 77, 78, 79, 80, 81, 82, 83, 84, 85, 86, 87, 116, 117, 118, 119, 120, 121, 122, 123, 124, 125, 126, 127, 128, 129, 130, 131, 132, 133, 134, 135, 136, 137, 138, 139, 140] (by decide +kernel) (by decide +kernel)) (goodIn_sub (fun _ h => List.mem_cons_of_mem _ (List.mem_append_left _ (List.mem_append_left _ (List.mem_append_left _ (List.mem_append_right _ h))))) (by decide +kernel))
set_option maxRecDepth 20000 in
theorem gX6_issue_X6_certifyByScarecrow : GoodIn wsX6_issue (wsV RX6 137 RX6 yX6_certifyByScarecrow wsX6_certifyByScarecrow) := goodIn_app (goodIn_of _ (by decide +kernel)) ggX6_issue_X6_certifyByScarecrow
set_option maxRecDepth 20000 in
theorem ggX6_issue_X6_endChange : GoodIn wsX6_issue wsX6_endChange := goodIn_ca (goodIn_ca (goodIn_ca (goodIn_r _ [91, 92, 93, 94, 95, 96, 97, 98, 6, 99, 100, 101, 102, 103, 104, 105, 106, 107, 108, 109, 110, 111, 112, 113, 114, 115, 9, 10, 11, 12, 13, 14, 15, 16, 17, 18, 19, 20, 21, 22, 23, 24, 25, 26, 27, 28, 29, 30, 31, 32, 33, 34, 35, 36, 37, 38, 116, 117, 118, 119, 120, 121, 122, 123, 124, 125, 126, 127, 141, 142, 143, 128, 129, 130, 131, 132, 133, 134, 135, 136, 137, 138, 139, 140] (by decide +kernel) (by decide +kernel)) (goodIn_sub (fun _ h => List.mem_cons_of_mem _ (List.mem_append_left _ (List.mem_append_left _ (List.mem_append_right _ h)))) (by decide +kernel))) (goodIn_sub (fun _ h => List.mem_cons_of_mem _ (List.mem_append_left _ (List.mem_append_right _ h))) (by decide +kernel))) (goodIn_sub (fun _ h => List.mem_cons_of_mem _ (List.mem_append_right _ h)) (by decide +kernel))
set_option maxRecDepth 20000 in
theorem gX6_issue_X6_endChange : GoodIn wsX6_issue (wsV RX6 63 RX6 yX6_endChange wsX6_endChange) := goodIn_app (goodIn_of _ (by decide +kernel)) ggX6_issue_X6_endChange
theorem dX6_issue_0 : decode cX6_issue 0 = .ok (.aload_n 0, 1) := by decide +kernel
theorem dX6_issue_1 : decode cX6_issue 1 = .ok (.invokevirtual 56, 3) := by decide +kernel
theorem dX6_issue_4 : decode cX6_issue 4 = .ok (.aload_n 0, 1) := by decide +kernel
theorem dX6_issue_5 : decode cX6_issue 5 = .ok (.aload_n 0, 1) := by decide +kernel
theorem dX6_issue_6 : decode cX6_issue 6 = .ok (.iload_n 1, 1) := by decide +kernel
theorem dX6_issue_7 : decode cX6_issue 7 = .ok (.iload_n 2, 1) := by decide +kernel
theorem dX6_issue_8 : decode cX6_issue 8 = .ok (.iload_n 3, 1) := by decide +kernel
theorem dX6_issue_9 : decode cX6_issue 9 = .ok (.invokevirtual 137, 3) := by decide +kernel
theorem dX6_issue_12 : decode cX6_issue 12 = .ok (.invokevirtual 63, 3) := by decide +kernel
theorem dX6_issue_15 : decode cX6_issue 15 = .ok (.ireturn, 1) := by decide +kernel
set_option maxRecDepth 20000 in
theorem ggX6_withdraw_X6_beginChange : GoodIn wsX6_withdraw wsX6_beginChange := goodIn_r _ [5, 6, 7, 8, 9, 10, 11, 12, 13, 14, 15, 16, 17, 18, 19, 20, 21, 22, 23, 24, 25, 26, 27, 28, 29, 30, 31, 32, 33, 34, 35, 36, 37, 38, 87, 88, 89, 90, 91, 92, 93, 94, 95, 96, 97, 98, 99, 100, 101, 102, 103, 104, 105, 106, 107, 108, 109, 110, 111] (by decide +kernel) (by decide +kernel)
set_option maxRecDepth 20000 in
theorem gX6_withdraw_X6_beginChange : GoodIn wsX6_withdraw (wsV RX6 56 RX6 yX6_beginChange wsX6_beginChange) := goodIn_app (goodIn_of _ (by decide +kernel)) ggX6_withdraw_X6_beginChange
set_option maxRecDepth 20000 in
theorem ggX6_withdraw_X6_dropCertificate : GoodIn wsX6_withdraw wsX6_dropCertificate := goodIn_ca (goodIn_r _ [42, 7, 43, 44, 45, 11, 46, 20, 47, 48, 49, 28, 50, 30, 51, 52, 53, 54, 16, 17, 18, 19, 55, 56, 57, 58, 87, 88, 89, 90, 91, 92, 93, 94, 95, 96, 97, 98, 99, 100, 101, 102, 103, 104, 105, 106, 107, 108, 109, 110, 111] (by decide +kernel) (by decide +kernel)) (goodIn_sub (fun _ h => List.mem_cons_of_mem _ (List.mem_append_left _ (List.mem_append_left _ (List.mem_append_left _ (List.mem_append_right _ h))))) (by decide +kernel))
set_option maxRecDepth 20000 in
theorem gX6_withdraw_X6_dropCertificate : GoodIn wsX6_withdraw (wsV RX6 141 RX6 yX6_dropCertificate wsX6_dropCertificate) := goodIn_app (goodIn_of _ (by decide +kernel)) ggX6_withdraw_X6_dropCertificate
set_option maxRecDepth 20000 in
theorem ggX6_withdraw_X6_endChange : GoodIn wsX6_withdraw wsX6_endChange := goodIn_ca (goodIn_ca (goodIn_ca (goodIn_r _ [62, 63, 64, 65, 66, 67, 68, 69, 6, 70, 71, 72, 73, 74, 75, 76, 77, 78, 79, 80, 81, 82, 83, 84, 85, 86, 9, 10, 11, 12, 13, 14, 15, 16, 17, 18, 19, 20, 21, 22, 23, 24, 25, 26, 27, 28, 29, 30, 31, 32, 33, 34, 35, 36, 37, 38, 87, 88, 89, 90, 91, 92, 93, 94, 95, 96, 97, 98, 112, 113, 114, 99, 100, 101, 102, 103, 104, 105, 106, 107, 108, 109, 110, 111] (by decide +kernel) (by decide +kernel)) (goodIn_sub (fun _ h => List.mem_cons_of_mem _ (List.mem_append_left _ (List.mem_append_left _ (List.mem_append_right _ h)))) (by decide +kernel))) (goodIn_sub (fun _ h => List.mem_cons_of_mem _ (List.mem_append_left _ (List.mem_append_right _ h))) (by decide +kernel))) (goodIn_sub (fun _ h => List.mem_cons_of_mem _ (List.mem_append_right _ h)) (by decide +kernel))
set_option maxRecDepth 20000 in
theorem gX6_withdraw_X6_endChange : GoodIn wsX6_withdraw (wsV RX6 63 RX6 yX6_endChange wsX6_endChange) := goodIn_app (goodIn_of _ (by decide +kernel)) ggX6_withdraw_X6_endChange
theorem dX6_withdraw_0 : decode cX6_withdraw 0 = .ok (.aload_n 0, 1) := by decide +kernel
theorem dX6_withdraw_1 : decode cX6_withdraw 1 = .ok (.invokevirtual 56, 3) := by decide +kernel
theorem dX6_withdraw_4 : decode cX6_withdraw 4 = .ok (.aload_n 0, 1) := by decide +kernel
theorem dX6_withdraw_5 : decode cX6_withdraw 5 = .ok (.aload_n 0, 1) := by decide +kernel
theorem dX6_withdraw_6 : decode cX6_withdraw 6 = .ok (.iload_n 1, 1) := by decide +kernel
theorem dX6_withdraw_7 : decode cX6_withdraw 7 = .ok (.invokevirtual 141, 3) := by decide +kernel
theorem dX6_withdraw_10 : decode cX6_withdraw 10 = .ok (.invokevirtual 63, 3) := by decide +kernel
theorem dX6_withdraw_13 : decode cX6_withdraw 13 = .ok (.ireturn, 1) := by decide +kernel
theorem dX6_certificateCount_0 : decode cX6_certificateCount 0 = .ok (.aload_n 0, 1) := by decide +kernel
theorem dX6_certificateCount_1 : decode cX6_certificateCount 1 = .ok (.getfield 10, 3) := by decide +kernel
theorem dX6_certificateCount_4 : decode cX6_certificateCount 4 = .ok (.getfield 144, 3) := by decide +kernel
theorem dX6_certificateCount_7 : decode cX6_certificateCount 7 = .ok (.ireturn, 1) := by decide +kernel
set_option maxRecDepth 20000 in
theorem ggX6_isByRegistry_X6_requireCertificate : GoodIn wsX6_isByRegistry wsX6_requireCertificate := goodIn_ca (goodIn_r _ [6, 7, 8, 1, 9, 10, 11, 12, 13, 14, 21, 22, 23, 24, 25, 26, 27, 28, 29, 30, 31, 32, 33, 34, 35, 36, 37, 38, 39, 40, 41, 42, 43, 44] (by decide +kernel) (by decide +kernel)) (goodIn_sub (fun _ h => List.mem_cons_of_mem _ (List.mem_append_left _ (List.mem_append_right _ h))) (by decide +kernel))
set_option maxRecDepth 20000 in
theorem gX6_isByRegistry_X6_requireCertificate : GoodIn wsX6_isByRegistry (wsV RX6 147 RX6 yX6_requireCertificate wsX6_requireCertificate) := goodIn_app (goodIn_of _ (by decide +kernel)) ggX6_isByRegistry_X6_requireCertificate
set_option maxRecDepth 20000 in
theorem ggX6_isByRegistry_X4_get : GoodIn wsX6_isByRegistry wsX4_get := goodIn_ca (goodIn_r _ [19, 20, 45] (by decide +kernel) (by decide +kernel)) (goodIn_sub (fun _ h => List.mem_cons_of_mem _ (List.mem_append_right _ h)) (by decide +kernel))
set_option maxRecDepth 20000 in
theorem gX6_isByRegistry_X4_get : GoodIn wsX6_isByRegistry (wsV RX6 85 RX4 yX4_get wsX4_get) := goodIn_app (goodIn_of _ (by decide +kernel)) ggX6_isByRegistry_X4_get
theorem dX6_isByRegistry_0 : decode cX6_isByRegistry 0 = .ok (.aload_n 0, 1) := by decide +kernel
theorem dX6_isByRegistry_1 : decode cX6_isByRegistry 1 = .ok (.iload_n 1, 1) := by decide +kernel
theorem dX6_isByRegistry_2 : decode cX6_isByRegistry 2 = .ok (.invokevirtual 147, 3) := by decide +kernel
theorem dX6_isByRegistry_5 : decode cX6_isByRegistry 5 = .ok (.aload_n 0, 1) := by decide +kernel
theorem dX6_isByRegistry_6 : decode cX6_isByRegistry 6 = .ok (.getfield 10, 3) := by decide +kernel
theorem dX6_isByRegistry_9 : decode cX6_isByRegistry 9 = .ok (.getfield 150, 3) := by decide +kernel
theorem dX6_isByRegistry_12 : decode cX6_isByRegistry 12 = .ok (.iload_n 1, 1) := by decide +kernel
theorem dX6_isByRegistry_13 : decode cX6_isByRegistry 13 = .ok (.invokevirtual 85, 3) := by decide +kernel
theorem dX6_isByRegistry_16 : decode cX6_isByRegistry 16 = .ok (.iconst (-1), 1) := by decide +kernel
theorem dX6_isByRegistry_17 : decode cX6_isByRegistry 17 = .ok (.if_icmp .ne 7, 3) := by decide +kernel
theorem dX6_isByRegistry_20 : decode cX6_isByRegistry 20 = .ok (.iconst 1, 1) := by decide +kernel
theorem dX6_isByRegistry_21 : decode cX6_isByRegistry 21 = .ok (.goto 4, 3) := by decide +kernel
theorem dX6_isByRegistry_24 : decode cX6_isByRegistry 24 = .ok (.iconst 0, 1) := by decide +kernel
theorem dX6_isByRegistry_25 : decode cX6_isByRegistry 25 = .ok (.ireturn, 1) := by decide +kernel
set_option maxRecDepth 20000 in
theorem ggX6_issuerOf_X6_requireCertificate : GoodIn wsX6_issuerOf wsX6_requireCertificate := goodIn_ca (goodIn_r _ [8, 9, 10, 3, 11, 12, 13, 14, 15, 16, 23, 24, 25, 26, 27, 28, 29, 30, 31, 32, 33, 34, 35, 36, 37, 38, 39, 40, 41, 42, 43, 44, 45, 46] (by decide +kernel) (by decide +kernel)) (goodIn_sub (fun _ h => List.mem_cons_of_mem _ (List.mem_append_left _ (List.mem_append_right _ h))) (by decide +kernel))
set_option maxRecDepth 20000 in
theorem gX6_issuerOf_X6_requireCertificate : GoodIn wsX6_issuerOf (wsV RX6 147 RX6 yX6_requireCertificate wsX6_requireCertificate) := goodIn_app (goodIn_of _ (by decide +kernel)) ggX6_issuerOf_X6_requireCertificate
set_option maxRecDepth 20000 in
theorem ggX6_issuerOf_X4_get : GoodIn wsX6_issuerOf wsX4_get := goodIn_ca (goodIn_r _ [21, 22, 47] (by decide +kernel) (by decide +kernel)) (goodIn_sub (fun _ h => List.mem_cons_of_mem _ (List.mem_append_right _ h)) (by decide +kernel))
set_option maxRecDepth 20000 in
theorem gX6_issuerOf_X4_get : GoodIn wsX6_issuerOf (wsV RX6 85 RX4 yX4_get wsX4_get) := goodIn_app (goodIn_of _ (by decide +kernel)) ggX6_issuerOf_X4_get
theorem dX6_issuerOf_0 : decode cX6_issuerOf 0 = .ok (.aload_n 0, 1) := by decide +kernel
theorem dX6_issuerOf_1 : decode cX6_issuerOf 1 = .ok (.iload_n 1, 1) := by decide +kernel
theorem dX6_issuerOf_2 : decode cX6_issuerOf 2 = .ok (.invokevirtual 147, 3) := by decide +kernel
theorem dX6_issuerOf_5 : decode cX6_issuerOf 5 = .ok (.aload_n 0, 1) := by decide +kernel
theorem dX6_issuerOf_6 : decode cX6_issuerOf 6 = .ok (.getfield 10, 3) := by decide +kernel
theorem dX6_issuerOf_9 : decode cX6_issuerOf 9 = .ok (.getfield 150, 3) := by decide +kernel
theorem dX6_issuerOf_12 : decode cX6_issuerOf 12 = .ok (.iload_n 1, 1) := by decide +kernel
theorem dX6_issuerOf_13 : decode cX6_issuerOf 13 = .ok (.invokevirtual 85, 3) := by decide +kernel
theorem dX6_issuerOf_16 : decode cX6_issuerOf 16 = .ok (.istore_n 2, 1) := by decide +kernel
theorem dX6_issuerOf_17 : decode cX6_issuerOf 17 = .ok (.iload_n 2, 1) := by decide +kernel
theorem dX6_issuerOf_18 : decode cX6_issuerOf 18 = .ok (.iconst (-1), 1) := by decide +kernel
theorem dX6_issuerOf_19 : decode cX6_issuerOf 19 = .ok (.if_icmp .ne 13, 3) := by decide +kernel
theorem dX6_issuerOf_22 : decode cX6_issuerOf 22 = .ok (.new 96, 3) := by decide +kernel
theorem dX6_issuerOf_25 : decode cX6_issuerOf 25 = .ok (.dup, 1) := by decide +kernel
theorem dX6_issuerOf_26 : decode cX6_issuerOf 26 = .ok (.ldc 153, 2) := by decide +kernel
theorem dX6_issuerOf_28 : decode cX6_issuerOf 28 = .ok (.invokespecial 100, 3) := by decide +kernel
theorem dX6_issuerOf_31 : decode cX6_issuerOf 31 = .ok (.athrow, 1) := by decide +kernel
theorem dX6_issuerOf_32 : decode cX6_issuerOf 32 = .ok (.iload_n 2, 1) := by decide +kernel
theorem dX6_issuerOf_33 : decode cX6_issuerOf 33 = .ok (.ireturn, 1) := by decide +kernel
set_option maxRecDepth 20000 in
theorem ggX6_subjectOf_X6_requireCertificate : GoodIn wsX6_subjectOf wsX6_requireCertificate := goodIn_ca (goodIn_r _ [6, 7, 8, 1, 9, 10, 11, 12, 13, 14, 21, 22, 23, 24, 25, 26, 27, 28, 29, 30, 31, 32, 33, 34, 35, 36, 37, 38, 39, 40, 41, 42, 43, 44] (by decide +kernel) (by decide +kernel)) (goodIn_sub (fun _ h => List.mem_cons_of_mem _ (List.mem_append_left _ (List.mem_append_right _ h))) (by decide +kernel))
set_option maxRecDepth 20000 in
theorem gX6_subjectOf_X6_requireCertificate : GoodIn wsX6_subjectOf (wsV RX6 147 RX6 yX6_requireCertificate wsX6_requireCertificate) := goodIn_app (goodIn_of _ (by decide +kernel)) ggX6_subjectOf_X6_requireCertificate
set_option maxRecDepth 20000 in
theorem ggX6_subjectOf_X4_get : GoodIn wsX6_subjectOf wsX4_get := goodIn_ca (goodIn_r _ [19, 20, 45] (by decide +kernel) (by decide +kernel)) (goodIn_sub (fun _ h => List.mem_cons_of_mem _ (List.mem_append_right _ h)) (by decide +kernel))
set_option maxRecDepth 20000 in
theorem gX6_subjectOf_X4_get : GoodIn wsX6_subjectOf (wsV RX6 85 RX4 yX4_get wsX4_get) := goodIn_app (goodIn_of _ (by decide +kernel)) ggX6_subjectOf_X4_get
theorem dX6_subjectOf_0 : decode cX6_subjectOf 0 = .ok (.aload_n 0, 1) := by decide +kernel
theorem dX6_subjectOf_1 : decode cX6_subjectOf 1 = .ok (.iload_n 1, 1) := by decide +kernel
theorem dX6_subjectOf_2 : decode cX6_subjectOf 2 = .ok (.invokevirtual 147, 3) := by decide +kernel
theorem dX6_subjectOf_5 : decode cX6_subjectOf 5 = .ok (.aload_n 0, 1) := by decide +kernel
theorem dX6_subjectOf_6 : decode cX6_subjectOf 6 = .ok (.getfield 10, 3) := by decide +kernel
theorem dX6_subjectOf_9 : decode cX6_subjectOf 9 = .ok (.getfield 155, 3) := by decide +kernel
theorem dX6_subjectOf_12 : decode cX6_subjectOf 12 = .ok (.iload_n 1, 1) := by decide +kernel
theorem dX6_subjectOf_13 : decode cX6_subjectOf 13 = .ok (.invokevirtual 85, 3) := by decide +kernel
theorem dX6_subjectOf_16 : decode cX6_subjectOf 16 = .ok (.ireturn, 1) := by decide +kernel
set_option maxRecDepth 20000 in
theorem ggX6_addressOf_X6_requireCertificate : GoodIn wsX6_addressOf wsX6_requireCertificate := goodIn_ca (goodIn_r _ [6, 7, 8, 1, 9, 10, 11, 12, 13, 14, 21, 22, 23, 24, 25, 26, 27, 28, 29, 30, 31, 32, 33, 34, 35, 36, 37, 38, 39, 40, 41, 42, 43, 44] (by decide +kernel) (by decide +kernel)) (goodIn_sub (fun _ h => List.mem_cons_of_mem _ (List.mem_append_left _ (List.mem_append_right _ h))) (by decide +kernel))
set_option maxRecDepth 20000 in
theorem gX6_addressOf_X6_requireCertificate : GoodIn wsX6_addressOf (wsV RX6 147 RX6 yX6_requireCertificate wsX6_requireCertificate) := goodIn_app (goodIn_of _ (by decide +kernel)) ggX6_addressOf_X6_requireCertificate
set_option maxRecDepth 20000 in
theorem ggX6_addressOf_X4_get : GoodIn wsX6_addressOf wsX4_get := goodIn_ca (goodIn_r _ [19, 20, 45] (by decide +kernel) (by decide +kernel)) (goodIn_sub (fun _ h => List.mem_cons_of_mem _ (List.mem_append_right _ h)) (by decide +kernel))
set_option maxRecDepth 20000 in
theorem gX6_addressOf_X4_get : GoodIn wsX6_addressOf (wsV RX6 85 RX4 yX4_get wsX4_get) := goodIn_app (goodIn_of _ (by decide +kernel)) ggX6_addressOf_X4_get
theorem dX6_addressOf_0 : decode cX6_addressOf 0 = .ok (.aload_n 0, 1) := by decide +kernel
theorem dX6_addressOf_1 : decode cX6_addressOf 1 = .ok (.iload_n 1, 1) := by decide +kernel
theorem dX6_addressOf_2 : decode cX6_addressOf 2 = .ok (.invokevirtual 147, 3) := by decide +kernel
theorem dX6_addressOf_5 : decode cX6_addressOf 5 = .ok (.aload_n 0, 1) := by decide +kernel
theorem dX6_addressOf_6 : decode cX6_addressOf 6 = .ok (.getfield 10, 3) := by decide +kernel
theorem dX6_addressOf_9 : decode cX6_addressOf 9 = .ok (.getfield 158, 3) := by decide +kernel
theorem dX6_addressOf_12 : decode cX6_addressOf 12 = .ok (.iload_n 1, 1) := by decide +kernel
theorem dX6_addressOf_13 : decode cX6_addressOf 13 = .ok (.invokevirtual 85, 3) := by decide +kernel
theorem dX6_addressOf_16 : decode cX6_addressOf 16 = .ok (.ireturn, 1) := by decide +kernel
set_option maxRecDepth 20000 in
theorem ggX6_lastDayOf_X6_requireCertificate : GoodIn wsX6_lastDayOf wsX6_requireCertificate := goodIn_ca (goodIn_r _ [6, 7, 8, 1, 9, 10, 11, 12, 13, 14, 21, 22, 23, 24, 25, 26, 27, 28, 29, 30, 31, 32, 33, 34, 35, 36, 37, 38, 39, 40, 41, 42, 43, 44] (by decide +kernel) (by decide +kernel)) (goodIn_sub (fun _ h => List.mem_cons_of_mem _ (List.mem_append_left _ (List.mem_append_right _ h))) (by decide +kernel))
set_option maxRecDepth 20000 in
theorem gX6_lastDayOf_X6_requireCertificate : GoodIn wsX6_lastDayOf (wsV RX6 147 RX6 yX6_requireCertificate wsX6_requireCertificate) := goodIn_app (goodIn_of _ (by decide +kernel)) ggX6_lastDayOf_X6_requireCertificate
set_option maxRecDepth 20000 in
theorem ggX6_lastDayOf_X4_get : GoodIn wsX6_lastDayOf wsX4_get := goodIn_ca (goodIn_r _ [19, 20, 45] (by decide +kernel) (by decide +kernel)) (goodIn_sub (fun _ h => List.mem_cons_of_mem _ (List.mem_append_right _ h)) (by decide +kernel))
set_option maxRecDepth 20000 in
theorem gX6_lastDayOf_X4_get : GoodIn wsX6_lastDayOf (wsV RX6 85 RX4 yX4_get wsX4_get) := goodIn_app (goodIn_of _ (by decide +kernel)) ggX6_lastDayOf_X4_get
theorem dX6_lastDayOf_0 : decode cX6_lastDayOf 0 = .ok (.aload_n 0, 1) := by decide +kernel
theorem dX6_lastDayOf_1 : decode cX6_lastDayOf 1 = .ok (.iload_n 1, 1) := by decide +kernel
theorem dX6_lastDayOf_2 : decode cX6_lastDayOf 2 = .ok (.invokevirtual 147, 3) := by decide +kernel
theorem dX6_lastDayOf_5 : decode cX6_lastDayOf 5 = .ok (.aload_n 0, 1) := by decide +kernel
theorem dX6_lastDayOf_6 : decode cX6_lastDayOf 6 = .ok (.getfield 10, 3) := by decide +kernel
theorem dX6_lastDayOf_9 : decode cX6_lastDayOf 9 = .ok (.getfield 161, 3) := by decide +kernel
theorem dX6_lastDayOf_12 : decode cX6_lastDayOf 12 = .ok (.iload_n 1, 1) := by decide +kernel
theorem dX6_lastDayOf_13 : decode cX6_lastDayOf 13 = .ok (.invokevirtual 85, 3) := by decide +kernel
theorem dX6_lastDayOf_16 : decode cX6_lastDayOf 16 = .ok (.ireturn, 1) := by decide +kernel
set_option maxRecDepth 20000 in
theorem ggX6_isInForce_X6_requireCertificate : GoodIn wsX6_isInForce wsX6_requireCertificate := goodIn_ca (goodIn_r _ [6, 7, 8, 1, 9, 10, 11, 12, 13, 14, 51, 52, 53, 54, 55, 56, 57, 58, 59, 60, 61, 62, 63, 64, 65, 66, 67, 68, 69, 70, 71, 72, 73, 74] (by decide +kernel) (by decide +kernel)) (goodIn_sub (fun _ h => List.mem_cons_of_mem _ (List.mem_append_left _ (List.mem_append_right _ h))) (by decide +kernel))
set_option maxRecDepth 20000 in
theorem gX6_isInForce_X6_requireCertificate : GoodIn wsX6_isInForce (wsV RX6 147 RX6 yX6_requireCertificate wsX6_requireCertificate) := goodIn_app (goodIn_of _ (by decide +kernel)) ggX6_isInForce_X6_requireCertificate
set_option maxRecDepth 20000 in
theorem ggX6_isInForce_X5_inForceNow : GoodIn wsX6_isInForce wsX5_inForceNow := goodIn_ca (goodIn_r _ [18, 19, 20, 21, 22, 12, 23, 24, 25, 26, 27, 28, 29, 30, 31, 32, 14, 33, 34, 35, 36, 37, 38, 39, 40, 41, 42, 43, 44, 5, 45, 46, 47, 48, 49, 63, 64, 65, 66, 67, 68, 69, 70, 71, 72, 73, 74, 75] (by decide +kernel) (by decide +kernel)) (goodIn_sub (fun _ h => List.mem_cons_of_mem _ (List.mem_append_right _ h)) (by decide +kernel))
set_option maxRecDepth 20000 in
theorem gX6_isInForce_X5_inForceNow : GoodIn wsX6_isInForce (wsV RX6 126 RX5 yX5_inForceNow wsX5_inForceNow) := goodIn_app (goodIn_of _ (by decide +kernel)) ggX6_isInForce_X5_inForceNow
set_option maxRecDepth 20000 in
theorem ggX6_isInForce_X6_has : GoodIn wsX6_isInForce wsX6_has := goodIn_r _ [45] (by decide +kernel) (by decide +kernel)
set_option maxRecDepth 20000 in
theorem gX6_isInForce_X6_has : GoodIn wsX6_isInForce (va_wsS RX6 106 yX6_has wsX6_has) := goodIn_app (goodIn_of _ (by decide +kernel)) ggX6_isInForce_X6_has
theorem dX6_isInForce_0 : decode cX6_isInForce 0 = .ok (.aload_n 0, 1) := by decide +kernel
theorem dX6_isInForce_1 : decode cX6_isInForce 1 = .ok (.iload_n 1, 1) := by decide +kernel
theorem dX6_isInForce_2 : decode cX6_isInForce 2 = .ok (.invokevirtual 147, 3) := by decide +kernel
theorem dX6_isInForce_5 : decode cX6_isInForce 5 = .ok (.aload_n 0, 1) := by decide +kernel
theorem dX6_isInForce_6 : decode cX6_isInForce 6 = .ok (.getfield 10, 3) := by decide +kernel
theorem dX6_isInForce_9 : decode cX6_isInForce 9 = .ok (.invokevirtual 126, 3) := by decide +kernel
theorem dX6_isInForce_12 : decode cX6_isInForce 12 = .ok (.iload_n 1, 1) := by decide +kernel
theorem dX6_isInForce_13 : decode cX6_isInForce 13 = .ok (.invokestatic 106, 3) := by decide +kernel
theorem dX6_isInForce_16 : decode cX6_isInForce 16 = .ok (.ireturn, 1) := by decide +kernel
set_option maxRecDepth 20000 in
theorem ggX6_inForceCount_X5_inForceNow : GoodIn wsX6_inForceCount wsX5_inForceNow := goodIn_ca (goodIn_r _ [6, 7, 8, 9, 10, 5, 11, 12, 13, 14, 15, 16, 17, 18, 19, 20, 21, 22, 23, 24, 25, 26, 27, 28, 29, 30, 31, 32, 33, 34, 35, 36, 37, 38, 39, 59, 60, 61, 62, 63, 64, 65, 66, 67, 68, 69, 70, 71] (by decide +kernel) (by decide +kernel)) (goodIn_sub (fun _ h => List.mem_cons_of_mem _ (List.mem_append_right _ h)) (by decide +kernel))
set_option maxRecDepth 20000 in
theorem gX6_inForceCount_X5_inForceNow : GoodIn wsX6_inForceCount (wsV RX6 126 RX5 yX5_inForceNow wsX5_inForceNow) := goodIn_app (goodIn_of _ (by decide +kernel)) ggX6_inForceCount_X5_inForceNow
set_option maxRecDepth 20000 in
theorem ggX6_inForceCount_J6_bitCount_0f7a4 : GoodIn wsX6_inForceCount wsJ6_bitCount_0f7a4 := goodIn_r _ [43, 44, 45, 46] (by decide +kernel) (by decide +kernel)
set_option maxRecDepth 20000 in
theorem gX6_inForceCount_J6_bitCount_0f7a4 : GoodIn wsX6_inForceCount (va_wsS RX6 164 yJ6_bitCount_0f7a4 wsJ6_bitCount_0f7a4) := goodIn_app (goodIn_of _ (by decide +kernel)) ggX6_inForceCount_J6_bitCount_0f7a4
theorem dX6_inForceCount_0 : decode cX6_inForceCount 0 = .ok (.aload_n 0, 1) := by decide +kernel
theorem dX6_inForceCount_1 : decode cX6_inForceCount 1 = .ok (.getfield 10, 3) := by decide +kernel
theorem dX6_inForceCount_4 : decode cX6_inForceCount 4 = .ok (.invokevirtual 126, 3) := by decide +kernel
theorem dX6_inForceCount_7 : decode cX6_inForceCount 7 = .ok (.invokestatic 164, 3) := by decide +kernel
theorem dX6_inForceCount_10 : decode cX6_inForceCount 10 = .ok (.ireturn, 1) := by decide +kernel
set_option maxRecDepth 20000 in
theorem ggX6_sow_X6_beginChange : GoodIn wsX6_sow wsX6_beginChange := goodIn_r _ [5, 6, 7, 8, 9, 10, 11, 12, 13, 14, 15, 16, 17, 18, 19, 20, 21, 22, 23, 24, 25, 26, 27, 28, 29, 30, 31, 32, 33, 34, 35, 36, 37, 38, 89, 90, 91, 92, 93, 94, 95, 96, 97, 98, 99, 100, 101, 102, 103, 104, 105, 106, 107, 108, 109, 110, 111, 112, 113] (by decide +kernel) (by decide +kernel)
set_option maxRecDepth 20000 in
theorem gX6_sow_X6_beginChange : GoodIn wsX6_sow (wsV RX6 56 RX6 yX6_beginChange wsX6_beginChange) := goodIn_app (goodIn_of _ (by decide +kernel)) ggX6_sow_X6_beginChange
set_option maxRecDepth 20000 in
theorem ggX6_sow_X6_putGrains : GoodIn wsX6_sow wsX6_putGrains := goodIn_ca (goodIn_r _ [42, 7, 43, 44, 4, 45, 46, 47, 48, 28, 49, 30, 50, 51, 52, 53, 54, 55, 56, 57, 58, 59, 60, 89, 90, 91, 92, 93, 94, 95, 96, 97, 98, 99, 100, 101, 102, 103, 104, 105, 106, 107, 108, 109, 110, 111, 112, 113] (by decide +kernel) (by decide +kernel)) (goodIn_sub (fun _ h => List.mem_cons_of_mem _ (List.mem_append_left _ (List.mem_append_left _ (List.mem_append_left _ (List.mem_append_right _ h))))) (by decide +kernel))
set_option maxRecDepth 20000 in
theorem gX6_sow_X6_putGrains : GoodIn wsX6_sow (wsV RX6 169 RX6 yX6_putGrains wsX6_putGrains) := goodIn_app (goodIn_of _ (by decide +kernel)) ggX6_sow_X6_putGrains
set_option maxRecDepth 20000 in
theorem ggX6_sow_X6_endChange : GoodIn wsX6_sow wsX6_endChange := goodIn_ca (goodIn_ca (goodIn_ca (goodIn_r _ [64, 65, 66, 67, 68, 69, 70, 71, 6, 72, 73, 74, 75, 76, 77, 78, 79, 80, 81, 82, 83, 84, 85, 86, 87, 88, 9, 10, 11, 12, 13, 14, 15, 16, 17, 18, 19, 20, 21, 22, 23, 24, 25, 26, 27, 28, 29, 30, 31, 32, 33, 34, 35, 36, 37, 38, 89, 90, 91, 92, 93, 94, 95, 96, 97, 98, 99, 100, 114, 115, 116, 101, 102, 103, 104, 105, 106, 107, 108, 109, 110, 111, 112, 113] (by decide +kernel) (by decide +kernel)) (goodIn_sub (fun _ h => List.mem_cons_of_mem _ (List.mem_append_left _ (List.mem_append_left _ (List.mem_append_right _ h)))) (by decide +kernel))) (goodIn_sub (fun _ h => List.mem_cons_of_mem _ (List.mem_append_left _ (List.mem_append_right _ h))) (by decide +kernel))) (goodIn_sub (fun _ h => List.mem_cons_of_mem _ (List.mem_append_right _ h)) (by decide +kernel))
set_option maxRecDepth 20000 in
theorem gX6_sow_X6_endChange : GoodIn wsX6_sow (wsV RX6 63 RX6 yX6_endChange wsX6_endChange) := goodIn_app (goodIn_of _ (by decide +kernel)) ggX6_sow_X6_endChange
theorem dX6_sow_0 : decode cX6_sow 0 = .ok (.aload_n 0, 1) := by decide +kernel
theorem dX6_sow_1 : decode cX6_sow 1 = .ok (.invokevirtual 56, 3) := by decide +kernel
theorem dX6_sow_4 : decode cX6_sow 4 = .ok (.aload_n 0, 1) := by decide +kernel
theorem dX6_sow_5 : decode cX6_sow 5 = .ok (.aload_n 0, 1) := by decide +kernel
theorem dX6_sow_6 : decode cX6_sow 6 = .ok (.iload_n 1, 1) := by decide +kernel
theorem dX6_sow_7 : decode cX6_sow 7 = .ok (.iload_n 2, 1) := by decide +kernel
theorem dX6_sow_8 : decode cX6_sow 8 = .ok (.invokevirtual 169, 3) := by decide +kernel
theorem dX6_sow_11 : decode cX6_sow 11 = .ok (.invokevirtual 63, 3) := by decide +kernel
theorem dX6_sow_14 : decode cX6_sow 14 = .ok (.ireturn, 1) := by decide +kernel
set_option maxRecDepth 20000 in
theorem ggX6_pass_X6_beginChange : GoodIn wsX6_pass wsX6_beginChange := goodIn_r _ [5, 6, 7, 8, 9, 10, 11, 12, 13, 14, 15, 16, 17, 18, 19, 20, 21, 22, 23, 24, 25, 26, 27, 28, 29, 30, 31, 32, 33, 34, 35, 36, 37, 38, 121, 122, 123, 124, 125, 126, 127, 128, 129, 130, 131, 132, 133, 134, 135, 136, 137, 138, 139, 140, 141, 142, 143, 144, 145] (by decide +kernel) (by decide +kernel)
set_option maxRecDepth 20000 in
theorem gX6_pass_X6_beginChange : GoodIn wsX6_pass (wsV RX6 56 RX6 yX6_beginChange wsX6_beginChange) := goodIn_app (goodIn_of _ (by decide +kernel)) ggX6_pass_X6_beginChange
set_option maxRecDepth 20000 in
theorem ggX6_pass_X6_passDays : GoodIn wsX6_pass wsX6_passDays := goodIn_ca (goodIn_r _ [42, 7, 43, 44, 45, 11, 46, 22, 21, 23, 47, 48, 49, 50, 20, 19, 51, 52, 53, 28, 54, 30, 55, 56, 57, 58, 16, 17, 18, 59, 60, 61, 62, 63, 4, 64, 65, 66, 67, 68, 69, 70, 71, 72, 15, 73, 74, 75, 76, 13, 77, 78, 79, 80, 81, 82, 83, 84, 85, 86, 14, 87, 88, 89, 90, 33, 91, 92, 93, 94, 95, 121, 122, 123, 124, 125, 126, 127, 128, 129, 130, 131, 132, 133, 134, 135, 136, 137, 138, 139, 140, 141, 142, 143, 144, 145] (by decide +kernel) (by decide +kernel)) (goodIn_sub (fun _ h => List.mem_cons_of_mem _ (List.mem_append_left _ (List.mem_append_left _ (List.mem_append_left _ (List.mem_append_right _ h))))) (by decide +kernel))
set_option maxRecDepth 20000 in
theorem gX6_pass_X6_passDays : GoodIn wsX6_pass (wsV RX6 172 RX6 yX6_passDays wsX6_passDays) := goodIn_app (goodIn_of _ (by decide +kernel)) ggX6_pass_X6_passDays
set_option maxRecDepth 20000 in
theorem ggX6_pass_X6_endChange : GoodIn wsX6_pass wsX6_endChange := goodIn_ca (goodIn_ca (goodIn_ca (goodIn_r _ [99, 100, 101, 102, 103, 104, 105, 106, 6, 107, 108, 109, 110, 111, 112, 113, 114, 66, 67, 68, 115, 116, 117, 118, 119, 120, 9, 10, 11, 12, 13, 14, 15, 16, 17, 18, 19, 20, 21, 22, 23, 24, 25, 26, 27, 28, 29, 30, 31, 32, 33, 34, 35, 36, 37, 38, 121, 122, 123, 124, 125, 126, 127, 128, 129, 130, 131, 132, 146, 147, 148, 133, 134, 135, 136, 137, 138, 139, 140, 141, 142, 143, 144, 145] (by decide +kernel) (by decide +kernel)) (goodIn_sub (fun _ h => List.mem_cons_of_mem _ (List.mem_append_left _ (List.mem_append_left _ (List.mem_append_right _ h)))) (by decide +kernel))) (goodIn_sub (fun _ h => List.mem_cons_of_mem _ (List.mem_append_left _ (List.mem_append_right _ h))) (by decide +kernel))) (goodIn_sub (fun _ h => List.mem_cons_of_mem _ (List.mem_append_right _ h)) (by decide +kernel))
set_option maxRecDepth 20000 in
theorem gX6_pass_X6_endChange : GoodIn wsX6_pass (wsV RX6 63 RX6 yX6_endChange wsX6_endChange) := goodIn_app (goodIn_of _ (by decide +kernel)) ggX6_pass_X6_endChange
theorem dX6_pass_0 : decode cX6_pass 0 = .ok (.aload_n 0, 1) := by decide +kernel
theorem dX6_pass_1 : decode cX6_pass 1 = .ok (.invokevirtual 56, 3) := by decide +kernel
theorem dX6_pass_4 : decode cX6_pass 4 = .ok (.aload_n 0, 1) := by decide +kernel
theorem dX6_pass_5 : decode cX6_pass 5 = .ok (.aload_n 0, 1) := by decide +kernel
theorem dX6_pass_6 : decode cX6_pass 6 = .ok (.iload_n 1, 1) := by decide +kernel
theorem dX6_pass_7 : decode cX6_pass 7 = .ok (.invokevirtual 172, 3) := by decide +kernel
theorem dX6_pass_10 : decode cX6_pass 10 = .ok (.invokevirtual 63, 3) := by decide +kernel
theorem dX6_pass_13 : decode cX6_pass 13 = .ok (.ireturn, 1) := by decide +kernel
set_option maxRecDepth 20000 in
theorem ggX6_predictEaten_X5_copyFrom : GoodIn wsX6_predictEaten wsX5_copyFrom := goodIn_r _ [9, 10, 11, 12, 13, 14, 15, 16, 17, 18, 19, 20, 21, 22, 23, 24, 25, 26, 27, 28, 29, 30, 31, 32, 33, 34, 35, 102, 103, 104, 105, 106, 107, 108, 109, 110, 111, 112, 113, 114] (by decide +kernel) (by decide +kernel)
set_option maxRecDepth 20000 in
theorem gX6_predictEaten_X5_copyFrom : GoodIn wsX6_predictEaten (wsV RX6 180 RX5 yX5_copyFrom wsX5_copyFrom) := goodIn_app (goodIn_of _ (by decide +kernel)) ggX6_predictEaten_X5_copyFrom
set_option maxRecDepth 20000 in
theorem ggX6_predictEaten_X5_letDaysPass : GoodIn wsX6_predictEaten wsX5_letDaysPass := goodIn_ca (goodIn_r _ [39, 19, 18, 20, 40, 41, 42, 8, 43, 17, 16, 44, 45, 46, 25, 47, 27, 48, 49, 50, 51, 13, 14, 15, 52, 53, 54, 55, 56, 57, 58, 59, 60, 61, 62, 63, 64, 65, 66, 12, 67, 68, 69, 70, 10, 71, 72, 73, 74, 75, 76, 77, 78, 79, 80, 11, 81, 82, 83, 84, 30, 85, 86, 87, 88, 89, 102, 103, 104, 105, 106, 107, 108, 109, 110, 111, 112, 113, 114] (by decide +kernel) (by decide +kernel)) (goodIn_sub (fun _ h => List.mem_cons_of_mem _ (List.mem_append_right _ h)) (by decide +kernel))
set_option maxRecDepth 20000 in
theorem gX6_predictEaten_X5_letDaysPass : GoodIn wsX6_predictEaten (wsV RX6 184 RX5 yX5_letDaysPass wsX5_letDaysPass) := goodIn_app (goodIn_of _ (by decide +kernel)) ggX6_predictEaten_X5_letDaysPass
theorem dX6_predictEaten_0 : decode cX6_predictEaten 0 = .ok (.iload_n 1, 1) := by decide +kernel
theorem dX6_predictEaten_1 : decode cX6_predictEaten 1 = .ok (.ifCond .lt 9, 3) := by decide +kernel
theorem dX6_predictEaten_4 : decode cX6_predictEaten 4 = .ok (.iload_n 1, 1) := by decide +kernel
theorem dX6_predictEaten_5 : decode cX6_predictEaten 5 = .ok (.bipush 60, 2) := by decide +kernel
theorem dX6_predictEaten_7 : decode cX6_predictEaten 7 = .ok (.if_icmp .le 13, 3) := by decide +kernel
theorem dX6_predictEaten_10 : decode cX6_predictEaten 10 = .ok (.new 175, 3) := by decide +kernel
theorem dX6_predictEaten_13 : decode cX6_predictEaten 13 = .ok (.dup, 1) := by decide +kernel
theorem dX6_predictEaten_14 : decode cX6_predictEaten 14 = .ok (.ldc 177, 2) := by decide +kernel
theorem dX6_predictEaten_16 : decode cX6_predictEaten 16 = .ok (.invokespecial 179, 3) := by decide +kernel
theorem dX6_predictEaten_19 : decode cX6_predictEaten 19 = .ok (.athrow, 1) := by decide +kernel
theorem dX6_predictEaten_20 : decode cX6_predictEaten 20 = .ok (.aload_n 0, 1) := by decide +kernel
theorem dX6_predictEaten_21 : decode cX6_predictEaten 21 = .ok (.getfield 19, 3) := by decide +kernel
theorem dX6_predictEaten_24 : decode cX6_predictEaten 24 = .ok (.aload_n 0, 1) := by decide +kernel
theorem dX6_predictEaten_25 : decode cX6_predictEaten 25 = .ok (.getfield 10, 3) := by decide +kernel
theorem dX6_predictEaten_28 : decode cX6_predictEaten 28 = .ok (.invokevirtual 180, 3) := by decide +kernel
theorem dX6_predictEaten_31 : decode cX6_predictEaten 31 = .ok (.aload_n 0, 1) := by decide +kernel
theorem dX6_predictEaten_32 : decode cX6_predictEaten 32 = .ok (.getfield 19, 3) := by decide +kernel
theorem dX6_predictEaten_35 : decode cX6_predictEaten 35 = .ok (.iload_n 1, 1) := by decide +kernel
theorem dX6_predictEaten_36 : decode cX6_predictEaten 36 = .ok (.invokevirtual 184, 3) := by decide +kernel
theorem dX6_predictEaten_39 : decode cX6_predictEaten 39 = .ok (.ireturn, 1) := by decide +kernel
theorem dX6_day_0 : decode cX6_day 0 = .ok (.aload_n 0, 1) := by decide +kernel
theorem dX6_day_1 : decode cX6_day 1 = .ok (.getfield 10, 3) := by decide +kernel
theorem dX6_day_4 : decode cX6_day 4 = .ok (.getfield 118, 3) := by decide +kernel
theorem dX6_day_7 : decode cX6_day 7 = .ok (.ireturn, 1) := by decide +kernel
set_option maxRecDepth 20000 in
theorem ggX6_nextLook_X6_lookOn : GoodIn wsX6_nextLook wsX6_lookOn := goodIn_r _ [5, 6, 7, 8, 9] (by decide +kernel) (by decide +kernel)
set_option maxRecDepth 20000 in
theorem gX6_nextLook_X6_lookOn : GoodIn wsX6_nextLook (va_wsS RX6 187 yX6_lookOn wsX6_lookOn) := goodIn_app (goodIn_of _ (by decide +kernel)) ggX6_nextLook_X6_lookOn
theorem dX6_nextLook_0 : decode cX6_nextLook 0 = .ok (.aload_n 0, 1) := by decide +kernel
theorem dX6_nextLook_1 : decode cX6_nextLook 1 = .ok (.getfield 10, 3) := by decide +kernel
theorem dX6_nextLook_4 : decode cX6_nextLook 4 = .ok (.getfield 118, 3) := by decide +kernel
theorem dX6_nextLook_7 : decode cX6_nextLook 7 = .ok (.iconst 1, 1) := by decide +kernel
theorem dX6_nextLook_8 : decode cX6_nextLook 8 = .ok (.iadd, 1) := by decide +kernel
theorem dX6_nextLook_9 : decode cX6_nextLook 9 = .ok (.invokestatic 187, 3) := by decide +kernel
theorem dX6_nextLook_12 : decode cX6_nextLook 12 = .ok (.ireturn, 1) := by decide +kernel
set_option maxRecDepth 20000 in
theorem ggX6_grains_X6_requireField : GoodIn wsX6_grains wsX6_requireField := goodIn_ca (goodIn_r _ [5, 6, 7, 8, 9, 4, 10] (by decide +kernel) (by decide +kernel)) (goodIn_sub (fun _ h => List.mem_cons_of_mem _ (List.mem_append_left _ (List.mem_append_right _ h))) (by decide +kernel))
set_option maxRecDepth 20000 in
theorem gX6_grains_X6_requireField : GoodIn wsX6_grains (va_wsS RX6 90 yX6_requireField wsX6_requireField) := goodIn_app (goodIn_of _ (by decide +kernel)) ggX6_grains_X6_requireField
set_option maxRecDepth 20000 in
theorem ggX6_grains_X4_get : GoodIn wsX6_grains wsX4_get := goodIn_ca (goodIn_r _ [15, 16, 41] (by decide +kernel) (by decide +kernel)) (goodIn_sub (fun _ h => List.mem_cons_of_mem _ (List.mem_append_right _ h)) (by decide +kernel))
set_option maxRecDepth 20000 in
theorem gX6_grains_X4_get : GoodIn wsX6_grains (wsV RX6 85 RX4 yX4_get wsX4_get) := goodIn_app (goodIn_of _ (by decide +kernel)) ggX6_grains_X4_get
theorem dX6_grains_0 : decode cX6_grains 0 = .ok (.iload_n 1, 1) := by decide +kernel
theorem dX6_grains_1 : decode cX6_grains 1 = .ok (.invokestatic 90, 3) := by decide +kernel
theorem dX6_grains_4 : decode cX6_grains 4 = .ok (.aload_n 0, 1) := by decide +kernel
theorem dX6_grains_5 : decode cX6_grains 5 = .ok (.getfield 10, 3) := by decide +kernel
theorem dX6_grains_8 : decode cX6_grains 8 = .ok (.getfield 190, 3) := by decide +kernel
theorem dX6_grains_11 : decode cX6_grains 11 = .ok (.iload_n 1, 1) := by decide +kernel
theorem dX6_grains_12 : decode cX6_grains 12 = .ok (.invokevirtual 85, 3) := by decide +kernel
theorem dX6_grains_15 : decode cX6_grains 15 = .ok (.ireturn, 1) := by decide +kernel
set_option maxRecDepth 20000 in
theorem ggX6_isGuarded_X6_requireField : GoodIn wsX6_isGuarded wsX6_requireField := goodIn_ca (goodIn_r _ [5, 6, 7, 8, 9, 4, 10] (by decide +kernel) (by decide +kernel)) (goodIn_sub (fun _ h => List.mem_cons_of_mem _ (List.mem_append_left _ (List.mem_append_right _ h))) (by decide +kernel))
set_option maxRecDepth 20000 in
theorem gX6_isGuarded_X6_requireField : GoodIn wsX6_isGuarded (va_wsS RX6 90 yX6_requireField wsX6_requireField) := goodIn_app (goodIn_of _ (by decide +kernel)) ggX6_isGuarded_X6_requireField
set_option maxRecDepth 20000 in
theorem ggX6_isGuarded_X5_certifiedNow : GoodIn wsX6_isGuarded wsX5_certifiedNow := goodIn_ca (goodIn_r _ [15, 16, 17, 18, 19, 14, 20, 21, 22, 23, 24, 25, 26, 27, 28, 29, 30, 31, 32, 33, 34, 35, 36, 37, 38, 4, 39, 40, 41, 42, 43, 67, 68, 69, 70, 71, 72, 73, 74, 75, 76, 77, 78, 79] (by decide +kernel) (by decide +kernel)) (goodIn_sub (fun _ h => List.mem_cons_of_mem _ (List.mem_append_right _ h)) (by decide +kernel))
set_option maxRecDepth 20000 in
theorem gX6_isGuarded_X5_certifiedNow : GoodIn wsX6_isGuarded (wsV RX6 110 RX5 yX5_certifiedNow wsX5_certifiedNow) := goodIn_app (goodIn_of _ (by decide +kernel)) ggX6_isGuarded_X5_certifiedNow
set_option maxRecDepth 20000 in
theorem ggX6_isGuarded_X5_isNearOneOf : GoodIn wsX6_isGuarded wsX5_isNearOneOf := goodIn_ca (goodIn_r _ [47, 48, 28, 38, 4, 39, 32, 33, 34, 35, 36, 37, 49, 50, 51, 52, 53, 54, 67, 68, 69, 70, 71, 72, 73, 74, 75, 76, 77, 78, 79] (by decide +kernel) (by decide +kernel)) (goodIn_sub (fun _ h => List.mem_cons_of_mem _ (List.mem_append_right _ h)) (by decide +kernel))
set_option maxRecDepth 20000 in
theorem gX6_isGuarded_X5_isNearOneOf : GoodIn wsX6_isGuarded (wsV RX6 193 RX5 yX5_isNearOneOf wsX5_isNearOneOf) := goodIn_app (goodIn_of _ (by decide +kernel)) ggX6_isGuarded_X5_isNearOneOf
theorem dX6_isGuarded_0 : decode cX6_isGuarded 0 = .ok (.iload_n 1, 1) := by decide +kernel
theorem dX6_isGuarded_1 : decode cX6_isGuarded 1 = .ok (.invokestatic 90, 3) := by decide +kernel
theorem dX6_isGuarded_4 : decode cX6_isGuarded 4 = .ok (.aload_n 0, 1) := by decide +kernel
theorem dX6_isGuarded_5 : decode cX6_isGuarded 5 = .ok (.getfield 10, 3) := by decide +kernel
theorem dX6_isGuarded_8 : decode cX6_isGuarded 8 = .ok (.aload_n 0, 1) := by decide +kernel
theorem dX6_isGuarded_9 : decode cX6_isGuarded 9 = .ok (.getfield 10, 3) := by decide +kernel
theorem dX6_isGuarded_12 : decode cX6_isGuarded 12 = .ok (.invokevirtual 110, 3) := by decide +kernel
theorem dX6_isGuarded_15 : decode cX6_isGuarded 15 = .ok (.iload_n 1, 1) := by decide +kernel
theorem dX6_isGuarded_16 : decode cX6_isGuarded 16 = .ok (.invokevirtual 193, 3) := by decide +kernel
theorem dX6_isGuarded_19 : decode cX6_isGuarded 19 = .ok (.ireturn, 1) := by decide +kernel
set_option maxRecDepth 20000 in
theorem ggX6_guardedFields_X5_certifiedNow : GoodIn wsX6_guardedFields wsX5_certifiedNow := goodIn_ca (goodIn_r _ [6, 7, 8, 9, 10, 5, 11, 12, 13, 14, 15, 16, 17, 18, 19, 20, 21, 22, 23, 24, 25, 26, 27, 28, 29, 30, 31, 32, 33, 34, 35, 59, 60, 61, 62, 63, 64, 65, 66, 67, 68, 69, 70, 71] (by decide +kernel) (by decide +kernel)) (goodIn_sub (fun _ h => List.mem_cons_of_mem _ (List.mem_append_right _ h)) (by decide +kernel))
set_option maxRecDepth 20000 in
theorem gX6_guardedFields_X5_certifiedNow : GoodIn wsX6_guardedFields (wsV RX6 110 RX5 yX5_certifiedNow wsX5_certifiedNow) := goodIn_app (goodIn_of _ (by decide +kernel)) ggX6_guardedFields_X5_certifiedNow
set_option maxRecDepth 20000 in
theorem ggX6_guardedFields_X5_isNearOneOf : GoodIn wsX6_guardedFields wsX5_isNearOneOf := goodIn_ca (goodIn_r _ [39, 40, 19, 29, 30, 31, 23, 24, 25, 26, 27, 28, 41, 42, 43, 44, 45, 46, 59, 60, 61, 62, 63, 64, 65, 66, 67, 68, 69, 70, 71] (by decide +kernel) (by decide +kernel)) (goodIn_sub (fun _ h => List.mem_cons_of_mem _ (List.mem_append_right _ h)) (by decide +kernel))
set_option maxRecDepth 20000 in
theorem gX6_guardedFields_X5_isNearOneOf : GoodIn wsX6_guardedFields (wsV RX6 193 RX5 yX5_isNearOneOf wsX5_isNearOneOf) := goodIn_app (goodIn_of _ (by decide +kernel)) ggX6_guardedFields_X5_isNearOneOf
theorem dX6_guardedFields_0 : decode cX6_guardedFields 0 = .ok (.aload_n 0, 1) := by decide +kernel
theorem dX6_guardedFields_1 : decode cX6_guardedFields 1 = .ok (.getfield 10, 3) := by decide +kernel
theorem dX6_guardedFields_4 : decode cX6_guardedFields 4 = .ok (.invokevirtual 110, 3) := by decide +kernel
theorem dX6_guardedFields_7 : decode cX6_guardedFields 7 = .ok (.istore_n 1, 1) := by decide +kernel
theorem dX6_guardedFields_8 : decode cX6_guardedFields 8 = .ok (.iconst 0, 1) := by decide +kernel
theorem dX6_guardedFields_9 : decode cX6_guardedFields 9 = .ok (.istore_n 2, 1) := by decide +kernel
theorem dX6_guardedFields_10 : decode cX6_guardedFields 10 = .ok (.iconst 0, 1) := by decide +kernel
theorem dX6_guardedFields_11 : decode cX6_guardedFields 11 = .ok (.istore_n 3, 1) := by decide +kernel
theorem dX6_guardedFields_12 : decode cX6_guardedFields 12 = .ok (.iload_n 3, 1) := by decide +kernel
theorem dX6_guardedFields_13 : decode cX6_guardedFields 13 = .ok (.bipush 16, 2) := by decide +kernel
theorem dX6_guardedFields_15 : decode cX6_guardedFields 15 = .ok (.if_icmp .ge 24, 3) := by decide +kernel
theorem dX6_guardedFields_18 : decode cX6_guardedFields 18 = .ok (.aload_n 0, 1) := by decide +kernel
theorem dX6_guardedFields_19 : decode cX6_guardedFields 19 = .ok (.getfield 10, 3) := by decide +kernel
theorem dX6_guardedFields_22 : decode cX6_guardedFields 22 = .ok (.iload_n 1, 1) := by decide +kernel
theorem dX6_guardedFields_23 : decode cX6_guardedFields 23 = .ok (.iload_n 3, 1) := by decide +kernel
theorem dX6_guardedFields_24 : decode cX6_guardedFields 24 = .ok (.invokevirtual 193, 3) := by decide +kernel
theorem dX6_guardedFields_27 : decode cX6_guardedFields 27 = .ok (.ifCond .eq 6, 3) := by decide +kernel
theorem dX6_guardedFields_30 : decode cX6_guardedFields 30 = .ok (.iinc 2 1, 3) := by decide +kernel
theorem dX6_guardedFields_33 : decode cX6_guardedFields 33 = .ok (.iinc 3 1, 3) := by decide +kernel
theorem dX6_guardedFields_36 : decode cX6_guardedFields 36 = .ok (.goto (-24), 3) := by decide +kernel
theorem dX6_guardedFields_39 : decode cX6_guardedFields 39 = .ok (.iload_n 2, 1) := by decide +kernel
theorem dX6_guardedFields_40 : decode cX6_guardedFields 40 = .ok (.ireturn, 1) := by decide +kernel
set_option maxRecDepth 20000 in
theorem ggX6_guardedFieldsByScarecrows_X5_certifiedNow : GoodIn wsX6_guardedFieldsByScarecrows wsX5_certifiedNow := goodIn_ca (goodIn_r _ [6, 7, 8, 9, 10, 5, 11, 12, 13, 14, 15, 16, 17, 18, 19, 20, 21, 22, 23, 24, 25, 26, 27, 28, 29, 30, 31, 32, 33, 34, 35, 60, 61, 62, 63, 64, 65, 66, 67, 68, 69, 70, 71, 72] (by decide +kernel) (by decide +kernel)) (goodIn_sub (fun _ h => List.mem_cons_of_mem _ (List.mem_append_right _ h)) (by decide +kernel))
set_option maxRecDepth 20000 in
theorem gX6_guardedFieldsByScarecrows_X5_certifiedNow : GoodIn wsX6_guardedFieldsByScarecrows (wsV RX6 110 RX5 yX5_certifiedNow wsX5_certifiedNow) := goodIn_app (goodIn_of _ (by decide +kernel)) ggX6_guardedFieldsByScarecrows_X5_certifiedNow
set_option maxRecDepth 20000 in
theorem ggX6_guardedFieldsByScarecrows_X6_has : GoodIn wsX6_guardedFieldsByScarecrows wsX6_has := goodIn_r _ [31] (by decide +kernel) (by decide +kernel)
set_option maxRecDepth 20000 in
theorem gX6_guardedFieldsByScarecrows_X6_has : GoodIn wsX6_guardedFieldsByScarecrows (va_wsS RX6 106 yX6_has wsX6_has) := goodIn_app (goodIn_of _ (by decide +kernel)) ggX6_guardedFieldsByScarecrows_X6_has
set_option maxRecDepth 20000 in
theorem ggX6_guardedFieldsByScarecrows_X4_get : GoodIn wsX6_guardedFieldsByScarecrows wsX4_get := goodIn_ca (goodIn_r _ [27, 28, 72] (by decide +kernel) (by decide +kernel)) (goodIn_sub (fun _ h => List.mem_cons_of_mem _ (List.mem_append_right _ h)) (by decide +kernel))
set_option maxRecDepth 20000 in
theorem gX6_guardedFieldsByScarecrows_X4_get : GoodIn wsX6_guardedFieldsByScarecrows (wsV RX6 85 RX4 yX4_get wsX4_get) := goodIn_app (goodIn_of _ (by decide +kernel)) ggX6_guardedFieldsByScarecrows_X4_get
set_option maxRecDepth 20000 in
theorem ggX6_guardedFieldsByScarecrows_X6_fieldsNear : GoodIn wsX6_guardedFieldsByScarecrows wsX6_fieldsNear := goodIn_r _ [40] (by decide +kernel) (by decide +kernel)
set_option maxRecDepth 20000 in
theorem gX6_guardedFieldsByScarecrows_X6_fieldsNear : GoodIn wsX6_guardedFieldsByScarecrows (va_wsS RX6 196 yX6_fieldsNear wsX6_fieldsNear) := goodIn_app (goodIn_of _ (by decide +kernel)) ggX6_guardedFieldsByScarecrows_X6_fieldsNear
set_option maxRecDepth 20000 in
theorem ggX6_guardedFieldsByScarecrows_J6_bitCount_0f7a4 : GoodIn wsX6_guardedFieldsByScarecrows wsJ6_bitCount_0f7a4 := goodIn_r _ [44, 45, 46, 47] (by decide +kernel) (by decide +kernel)
set_option maxRecDepth 20000 in
theorem gX6_guardedFieldsByScarecrows_J6_bitCount_0f7a4 : GoodIn wsX6_guardedFieldsByScarecrows (va_wsS RX6 164 yJ6_bitCount_0f7a4 wsJ6_bitCount_0f7a4) := goodIn_app (goodIn_of _ (by decide +kernel)) ggX6_guardedFieldsByScarecrows_J6_bitCount_0f7a4
theorem dX6_guardedFieldsByScarecrows_0 : decode cX6_guardedFieldsByScarecrows 0 = .ok (.aload_n 0, 1) := by decide +kernel
theorem dX6_guardedFieldsByScarecrows_1 : decode cX6_guardedFieldsByScarecrows 1 = .ok (.getfield 10, 3) := by decide +kernel
theorem dX6_guardedFieldsByScarecrows_4 : decode cX6_guardedFieldsByScarecrows 4 = .ok (.invokevirtual 110, 3) := by decide +kernel
theorem dX6_guardedFieldsByScarecrows_7 : decode cX6_guardedFieldsByScarecrows 7 = .ok (.istore_n 1, 1) := by decide +kernel
theorem dX6_guardedFieldsByScarecrows_8 : decode cX6_guardedFieldsByScarecrows 8 = .ok (.iconst 0, 1) := by decide +kernel
theorem dX6_guardedFieldsByScarecrows_9 : decode cX6_guardedFieldsByScarecrows 9 = .ok (.istore_n 2, 1) := by decide +kernel
theorem dX6_guardedFieldsByScarecrows_10 : decode cX6_guardedFieldsByScarecrows 10 = .ok (.iconst 0, 1) := by decide +kernel
theorem dX6_guardedFieldsByScarecrows_11 : decode cX6_guardedFieldsByScarecrows 11 = .ok (.istore_n 3, 1) := by decide +kernel
theorem dX6_guardedFieldsByScarecrows_12 : decode cX6_guardedFieldsByScarecrows 12 = .ok (.iload_n 3, 1) := by decide +kernel
theorem dX6_guardedFieldsByScarecrows_13 : decode cX6_guardedFieldsByScarecrows 13 = .ok (.aload_n 0, 1) := by decide +kernel
theorem dX6_guardedFieldsByScarecrows_14 : decode cX6_guardedFieldsByScarecrows 14 = .ok (.getfield 10, 3) := by decide +kernel
theorem dX6_guardedFieldsByScarecrows_17 : decode cX6_guardedFieldsByScarecrows 17 = .ok (.getfield 74, 3) := by decide +kernel
theorem dX6_guardedFieldsByScarecrows_20 : decode cX6_guardedFieldsByScarecrows 20 = .ok (.if_icmp .ge 34, 3) := by decide +kernel
theorem dX6_guardedFieldsByScarecrows_23 : decode cX6_guardedFieldsByScarecrows 23 = .ok (.iload_n 1, 1) := by decide +kernel
theorem dX6_guardedFieldsByScarecrows_24 : decode cX6_guardedFieldsByScarecrows 24 = .ok (.iload_n 3, 1) := by decide +kernel
theorem dX6_guardedFieldsByScarecrows_25 : decode cX6_guardedFieldsByScarecrows 25 = .ok (.invokestatic 106, 3) := by decide +kernel
theorem dX6_guardedFieldsByScarecrows_28 : decode cX6_guardedFieldsByScarecrows 28 = .ok (.ifCond .eq 20, 3) := by decide +kernel
theorem dX6_guardedFieldsByScarecrows_31 : decode cX6_guardedFieldsByScarecrows 31 = .ok (.iload_n 2, 1) := by decide +kernel
theorem dX6_guardedFieldsByScarecrows_32 : decode cX6_guardedFieldsByScarecrows 32 = .ok (.aload_n 0, 1) := by decide +kernel
theorem dX6_guardedFieldsByScarecrows_33 : decode cX6_guardedFieldsByScarecrows 33 = .ok (.getfield 10, 3) := by decide +kernel
theorem dX6_guardedFieldsByScarecrows_36 : decode cX6_guardedFieldsByScarecrows 36 = .ok (.getfield 81, 3) := by decide +kernel
theorem dX6_guardedFieldsByScarecrows_39 : decode cX6_guardedFieldsByScarecrows 39 = .ok (.iload_n 3, 1) := by decide +kernel
theorem dX6_guardedFieldsByScarecrows_40 : decode cX6_guardedFieldsByScarecrows 40 = .ok (.invokevirtual 85, 3) := by decide +kernel
theorem dX6_guardedFieldsByScarecrows_43 : decode cX6_guardedFieldsByScarecrows 43 = .ok (.invokestatic 196, 3) := by decide +kernel
theorem dX6_guardedFieldsByScarecrows_46 : decode cX6_guardedFieldsByScarecrows 46 = .ok (.ior, 1) := by decide +kernel
theorem dX6_guardedFieldsByScarecrows_47 : decode cX6_guardedFieldsByScarecrows 47 = .ok (.istore_n 2, 1) := by decide +kernel
theorem dX6_guardedFieldsByScarecrows_48 : decode cX6_guardedFieldsByScarecrows 48 = .ok (.iinc 3 1, 3) := by decide +kernel
theorem dX6_guardedFieldsByScarecrows_51 : decode cX6_guardedFieldsByScarecrows 51 = .ok (.goto (-39), 3) := by decide +kernel
theorem dX6_guardedFieldsByScarecrows_54 : decode cX6_guardedFieldsByScarecrows 54 = .ok (.iload_n 2, 1) := by decide +kernel
theorem dX6_guardedFieldsByScarecrows_55 : decode cX6_guardedFieldsByScarecrows 55 = .ok (.invokestatic 164, 3) := by decide +kernel
theorem dX6_guardedFieldsByScarecrows_58 : decode cX6_guardedFieldsByScarecrows 58 = .ok (.ireturn, 1) := by decide +kernel
set_option maxRecDepth 20000 in
theorem ggX6_totalGrains_X4_get : GoodIn wsX6_totalGrains wsX4_get := goodIn_ca (goodIn_r _ [6, 7, 32] (by decide +kernel) (by decide +kernel)) (goodIn_sub (fun _ h => List.mem_cons_of_mem _ (List.mem_append_right _ h)) (by decide +kernel))
set_option maxRecDepth 20000 in
theorem gX6_totalGrains_X4_get : GoodIn wsX6_totalGrains (wsV RX6 85 RX4 yX4_get wsX4_get) := goodIn_app (goodIn_of _ (by decide +kernel)) ggX6_totalGrains_X4_get
theorem dX6_totalGrains_0 : decode cX6_totalGrains 0 = .ok (.iconst 0, 1) := by decide +kernel
theorem dX6_totalGrains_1 : decode cX6_totalGrains 1 = .ok (.istore_n 1, 1) := by decide +kernel
theorem dX6_totalGrains_2 : decode cX6_totalGrains 2 = .ok (.iconst 0, 1) := by decide +kernel
theorem dX6_totalGrains_3 : decode cX6_totalGrains 3 = .ok (.istore_n 2, 1) := by decide +kernel
theorem dX6_totalGrains_4 : decode cX6_totalGrains 4 = .ok (.iload_n 2, 1) := by decide +kernel
theorem dX6_totalGrains_5 : decode cX6_totalGrains 5 = .ok (.bipush 16, 2) := by decide +kernel
theorem dX6_totalGrains_7 : decode cX6_totalGrains 7 = .ok (.if_icmp .ge 23, 3) := by decide +kernel
theorem dX6_totalGrains_10 : decode cX6_totalGrains 10 = .ok (.iload_n 1, 1) := by decide +kernel
theorem dX6_totalGrains_11 : decode cX6_totalGrains 11 = .ok (.aload_n 0, 1) := by decide +kernel
theorem dX6_totalGrains_12 : decode cX6_totalGrains 12 = .ok (.getfield 10, 3) := by decide +kernel
theorem dX6_totalGrains_15 : decode cX6_totalGrains 15 = .ok (.getfield 190, 3) := by decide +kernel
theorem dX6_totalGrains_18 : decode cX6_totalGrains 18 = .ok (.iload_n 2, 1) := by decide +kernel
theorem dX6_totalGrains_19 : decode cX6_totalGrains 19 = .ok (.invokevirtual 85, 3) := by decide +kernel
theorem dX6_totalGrains_22 : decode cX6_totalGrains 22 = .ok (.iadd, 1) := by decide +kernel
theorem dX6_totalGrains_23 : decode cX6_totalGrains 23 = .ok (.istore_n 1, 1) := by decide +kernel
theorem dX6_totalGrains_24 : decode cX6_totalGrains 24 = .ok (.iinc 2 1, 3) := by decide +kernel
theorem dX6_totalGrains_27 : decode cX6_totalGrains 27 = .ok (.goto (-23), 3) := by decide +kernel
theorem dX6_totalGrains_30 : decode cX6_totalGrains 30 = .ok (.iload_n 1, 1) := by decide +kernel
theorem dX6_totalGrains_31 : decode cX6_totalGrains 31 = .ok (.ireturn, 1) := by decide +kernel
theorem dX6_eaten_0 : decode cX6_eaten 0 = .ok (.aload_n 0, 1) := by decide +kernel
theorem dX6_eaten_1 : decode cX6_eaten 1 = .ok (.getfield 10, 3) := by decide +kernel
theorem dX6_eaten_4 : decode cX6_eaten 4 = .ok (.getfield 199, 3) := by decide +kernel
theorem dX6_eaten_7 : decode cX6_eaten 7 = .ok (.ireturn, 1) := by decide +kernel
theorem dX6_sown_0 : decode cX6_sown 0 = .ok (.aload_n 0, 1) := by decide +kernel
theorem dX6_sown_1 : decode cX6_sown 1 = .ok (.getfield 10, 3) := by decide +kernel
theorem dX6_sown_4 : decode cX6_sown 4 = .ok (.getfield 202, 3) := by decide +kernel
theorem dX6_sown_7 : decode cX6_sown 7 = .ok (.ireturn, 1) := by decide +kernel
set_option maxRecDepth 20000 in
theorem ggX6_meanDaysLeft_X4_get : GoodIn wsX6_meanDaysLeft wsX4_get := goodIn_ca (goodIn_r _ [8, 9, 34] (by decide +kernel) (by decide +kernel)) (goodIn_sub (fun _ h => List.mem_cons_of_mem _ (List.mem_append_right _ h)) (by decide +kernel))
set_option maxRecDepth 20000 in
theorem gX6_meanDaysLeft_X4_get : GoodIn wsX6_meanDaysLeft (wsV RX6 85 RX4 yX4_get wsX4_get) := goodIn_app (goodIn_of _ (by decide +kernel)) ggX6_meanDaysLeft_X4_get
theorem dX6_meanDaysLeft_0 : decode cX6_meanDaysLeft 0 = .ok (.aload_n 0, 1) := by decide +kernel
theorem dX6_meanDaysLeft_1 : decode cX6_meanDaysLeft 1 = .ok (.getfield 10, 3) := by decide +kernel
theorem dX6_meanDaysLeft_4 : decode cX6_meanDaysLeft 4 = .ok (.getfield 144, 3) := by decide +kernel
theorem dX6_meanDaysLeft_7 : decode cX6_meanDaysLeft 7 = .ok (.ifCond .gt 13, 3) := by decide +kernel
theorem dX6_meanDaysLeft_10 : decode cX6_meanDaysLeft 10 = .ok (.new 205, 3) := by decide +kernel
theorem dX6_meanDaysLeft_13 : decode cX6_meanDaysLeft 13 = .ok (.dup, 1) := by decide +kernel
theorem dX6_meanDaysLeft_14 : decode cX6_meanDaysLeft 14 = .ok (.ldc 207, 2) := by decide +kernel
theorem dX6_meanDaysLeft_16 : decode cX6_meanDaysLeft 16 = .ok (.invokespecial 209, 3) := by decide +kernel
theorem dX6_meanDaysLeft_19 : decode cX6_meanDaysLeft 19 = .ok (.athrow, 1) := by decide +kernel
theorem dX6_meanDaysLeft_20 : decode cX6_meanDaysLeft 20 = .ok (.iconst 0, 1) := by decide +kernel
theorem dX6_meanDaysLeft_21 : decode cX6_meanDaysLeft 21 = .ok (.istore_n 1, 1) := by decide +kernel
theorem dX6_meanDaysLeft_22 : decode cX6_meanDaysLeft 22 = .ok (.iconst 0, 1) := by decide +kernel
theorem dX6_meanDaysLeft_23 : decode cX6_meanDaysLeft 23 = .ok (.istore_n 2, 1) := by decide +kernel
theorem dX6_meanDaysLeft_24 : decode cX6_meanDaysLeft 24 = .ok (.iload_n 2, 1) := by decide +kernel
theorem dX6_meanDaysLeft_25 : decode cX6_meanDaysLeft 25 = .ok (.aload_n 0, 1) := by decide +kernel
theorem dX6_meanDaysLeft_26 : decode cX6_meanDaysLeft 26 = .ok (.getfield 10, 3) := by decide +kernel
theorem dX6_meanDaysLeft_29 : decode cX6_meanDaysLeft 29 = .ok (.getfield 144, 3) := by decide +kernel
theorem dX6_meanDaysLeft_32 : decode cX6_meanDaysLeft 32 = .ok (.if_icmp .ge 31, 3) := by decide +kernel
theorem dX6_meanDaysLeft_35 : decode cX6_meanDaysLeft 35 = .ok (.iload_n 1, 1) := by decide +kernel
theorem dX6_meanDaysLeft_36 : decode cX6_meanDaysLeft 36 = .ok (.aload_n 0, 1) := by decide +kernel
theorem dX6_meanDaysLeft_37 : decode cX6_meanDaysLeft 37 = .ok (.getfield 10, 3) := by decide +kernel
theorem dX6_meanDaysLeft_40 : decode cX6_meanDaysLeft 40 = .ok (.getfield 161, 3) := by decide +kernel
theorem dX6_meanDaysLeft_43 : decode cX6_meanDaysLeft 43 = .ok (.iload_n 2, 1) := by decide +kernel
theorem dX6_meanDaysLeft_44 : decode cX6_meanDaysLeft 44 = .ok (.invokevirtual 85, 3) := by decide +kernel
theorem dX6_meanDaysLeft_47 : decode cX6_meanDaysLeft 47 = .ok (.aload_n 0, 1) := by decide +kernel
theorem dX6_meanDaysLeft_48 : decode cX6_meanDaysLeft 48 = .ok (.getfield 10, 3) := by decide +kernel
theorem dX6_meanDaysLeft_51 : decode cX6_meanDaysLeft 51 = .ok (.getfield 118, 3) := by decide +kernel
theorem dX6_meanDaysLeft_54 : decode cX6_meanDaysLeft 54 = .ok (.isub, 1) := by decide +kernel
theorem dX6_meanDaysLeft_55 : decode cX6_meanDaysLeft 55 = .ok (.iadd, 1) := by decide +kernel
theorem dX6_meanDaysLeft_56 : decode cX6_meanDaysLeft 56 = .ok (.istore_n 1, 1) := by decide +kernel
theorem dX6_meanDaysLeft_57 : decode cX6_meanDaysLeft 57 = .ok (.iinc 2 1, 3) := by decide +kernel
theorem dX6_meanDaysLeft_60 : decode cX6_meanDaysLeft 60 = .ok (.goto (-36), 3) := by decide +kernel
theorem dX6_meanDaysLeft_63 : decode cX6_meanDaysLeft 63 = .ok (.iload_n 1, 1) := by decide +kernel
theorem dX6_meanDaysLeft_64 : decode cX6_meanDaysLeft 64 = .ok (.i2d, 1) := by decide +kernel
theorem dX6_meanDaysLeft_65 : decode cX6_meanDaysLeft 65 = .ok (.aload_n 0, 1) := by decide +kernel
theorem dX6_meanDaysLeft_66 : decode cX6_meanDaysLeft 66 = .ok (.getfield 10, 3) := by decide +kernel
theorem dX6_meanDaysLeft_69 : decode cX6_meanDaysLeft 69 = .ok (.getfield 144, 3) := by decide +kernel
theorem dX6_meanDaysLeft_72 : decode cX6_meanDaysLeft 72 = .ok (.i2d, 1) := by decide +kernel
theorem dX6_meanDaysLeft_73 : decode cX6_meanDaysLeft 73 = .ok (.ddiv, 1) := by decide +kernel
theorem dX6_meanDaysLeft_74 : decode cX6_meanDaysLeft 74 = .ok (.dreturn, 1) := by decide +kernel
set_option maxRecDepth 20000 in
theorem ggX6_inForceShare_X5_inForceNow : GoodIn wsX6_inForceShare wsX5_inForceNow := goodIn_ca (goodIn_r _ [8, 9, 10, 11, 12, 7, 13, 14, 15, 16, 17, 18, 19, 20, 21, 22, 23, 24, 25, 26, 27, 28, 29, 30, 31, 32, 33, 34, 35, 36, 37, 38, 39, 40, 41, 61, 62, 63, 64, 65, 66, 67, 68, 69, 70, 71, 72, 73] (by decide +kernel) (by decide +kernel)) (goodIn_sub (fun _ h => List.mem_cons_of_mem _ (List.mem_append_right _ h)) (by decide +kernel))
set_option maxRecDepth 20000 in
theorem gX6_inForceShare_X5_inForceNow : GoodIn wsX6_inForceShare (wsV RX6 126 RX5 yX5_inForceNow wsX5_inForceNow) := goodIn_app (goodIn_of _ (by decide +kernel)) ggX6_inForceShare_X5_inForceNow
set_option maxRecDepth 20000 in
theorem ggX6_inForceShare_J6_bitCount_0f7a4 : GoodIn wsX6_inForceShare wsJ6_bitCount_0f7a4 := goodIn_r _ [45, 46, 47, 48] (by decide +kernel) (by decide +kernel)
set_option maxRecDepth 20000 in
theorem gX6_inForceShare_J6_bitCount_0f7a4 : GoodIn wsX6_inForceShare (va_wsS RX6 164 yJ6_bitCount_0f7a4 wsJ6_bitCount_0f7a4) := goodIn_app (goodIn_of _ (by decide +kernel)) ggX6_inForceShare_J6_bitCount_0f7a4
theorem dX6_inForceShare_0 : decode cX6_inForceShare 0 = .ok (.aload_n 0, 1) := by decide +kernel
theorem dX6_inForceShare_1 : decode cX6_inForceShare 1 = .ok (.getfield 10, 3) := by decide +kernel
theorem dX6_inForceShare_4 : decode cX6_inForceShare 4 = .ok (.getfield 144, 3) := by decide +kernel
theorem dX6_inForceShare_7 : decode cX6_inForceShare 7 = .ok (.ifCond .gt 13, 3) := by decide +kernel
theorem dX6_inForceShare_10 : decode cX6_inForceShare 10 = .ok (.new 205, 3) := by decide +kernel
theorem dX6_inForceShare_13 : decode cX6_inForceShare 13 = .ok (.dup, 1) := by decide +kernel
theorem dX6_inForceShare_14 : decode cX6_inForceShare 14 = .ok (.ldc 207, 2) := by decide +kernel
theorem dX6_inForceShare_16 : decode cX6_inForceShare 16 = .ok (.invokespecial 209, 3) := by decide +kernel
theorem dX6_inForceShare_19 : decode cX6_inForceShare 19 = .ok (.athrow, 1) := by decide +kernel
theorem dX6_inForceShare_20 : decode cX6_inForceShare 20 = .ok (.aload_n 0, 1) := by decide +kernel
theorem dX6_inForceShare_21 : decode cX6_inForceShare 21 = .ok (.getfield 10, 3) := by decide +kernel
theorem dX6_inForceShare_24 : decode cX6_inForceShare 24 = .ok (.invokevirtual 126, 3) := by decide +kernel
theorem dX6_inForceShare_27 : decode cX6_inForceShare 27 = .ok (.invokestatic 164, 3) := by decide +kernel
theorem dX6_inForceShare_30 : decode cX6_inForceShare 30 = .ok (.i2f, 1) := by decide +kernel
theorem dX6_inForceShare_31 : decode cX6_inForceShare 31 = .ok (.aload_n 0, 1) := by decide +kernel
theorem dX6_inForceShare_32 : decode cX6_inForceShare 32 = .ok (.getfield 10, 3) := by decide +kernel
theorem dX6_inForceShare_35 : decode cX6_inForceShare 35 = .ok (.getfield 144, 3) := by decide +kernel
theorem dX6_inForceShare_38 : decode cX6_inForceShare 38 = .ok (.i2f, 1) := by decide +kernel
theorem dX6_inForceShare_39 : decode cX6_inForceShare 39 = .ok (.fdiv, 1) := by decide +kernel
theorem dX6_inForceShare_40 : decode cX6_inForceShare 40 = .ok (.freturn, 1) := by decide +kernel
set_option maxRecDepth 20000 in
theorem ggX6_feed_X1_append : GoodIn wsX6_feed wsX1_append := goodIn_ca (goodIn_r _ [8, 9, 10, 11, 12, 13, 14, 15, 16, 29, 30, 31, 32, 33, 34] (by decide +kernel) (by decide +kernel)) (goodIn_sub (fun _ h => List.mem_cons_of_mem _ (List.mem_append_right _ h)) (by decide +kernel))
set_option maxRecDepth 20000 in
theorem gX6_feed_X1_append : GoodIn wsX6_feed (wsV RX6 218 RX1 yX1_append wsX1_append) := goodIn_app (goodIn_of _ (by decide +kernel)) ggX6_feed_X1_append
theorem dX6_feed_0 : decode cX6_feed 0 = .ok (.aload_n 0, 1) := by decide +kernel
theorem dX6_feed_1 : decode cX6_feed 1 = .ok (.getfield 35, 3) := by decide +kernel
theorem dX6_feed_4 : decode cX6_feed 4 = .ok (.getfield 210, 3) := by decide +kernel
theorem dX6_feed_7 : decode cX6_feed 7 = .ok (.bipush 60, 2) := by decide +kernel
theorem dX6_feed_9 : decode cX6_feed 9 = .ok (.if_icmp .lt 13, 3) := by decide +kernel
theorem dX6_feed_12 : decode cX6_feed 12 = .ok (.new 213, 3) := by decide +kernel
theorem dX6_feed_15 : decode cX6_feed 15 = .ok (.dup, 1) := by decide +kernel
theorem dX6_feed_16 : decode cX6_feed 16 = .ok (.ldc 215, 2) := by decide +kernel
theorem dX6_feed_18 : decode cX6_feed 18 = .ok (.invokespecial 217, 3) := by decide +kernel
theorem dX6_feed_21 : decode cX6_feed 21 = .ok (.athrow, 1) := by decide +kernel
theorem dX6_feed_22 : decode cX6_feed 22 = .ok (.aload_n 0, 1) := by decide +kernel
theorem dX6_feed_23 : decode cX6_feed 23 = .ok (.getfield 35, 3) := by decide +kernel
theorem dX6_feed_26 : decode cX6_feed 26 = .ok (.iload_n 1, 1) := by decide +kernel
theorem dX6_feed_27 : decode cX6_feed 27 = .ok (.invokevirtual 218, 3) := by decide +kernel
theorem dX6_feed_30 : decode cX6_feed 30 = .ok (.ireturn, 1) := by decide +kernel
set_option maxRecDepth 20000 in
theorem ggX6_execute_X1_countCommands : GoodIn wsX6_execute wsX1_countCommands := goodIn_ca (goodIn_r _ [14, 15, 16, 17, 18, 19, 13, 20, 21, 22, 23, 24, 25, 26, 27, 28, 29, 30, 31, 32, 33, 34, 35, 36, 37, 38, 39, 40, 41, 42, 43, 44, 45, 46, 47, 48, 49, 50, 51, 52, 53, 54, 55, 56, 57, 58, 59, 60, 61, 62, 63, 64, 65, 66, 67, 68, 69, 70, 71, 72, 73, 74, 75, 76, 77, 78, 79, 80, 81, 82, 83, 84, 85, 86, 87, 88, 89, 90, 91, 92, 93, 94, 95, 96, 97, 98, 99, 100, 101, 102, 103, 104, 105, 106, 107, 108, 109, 110, 111, 112, 113, 114, 323, 324, 325, 326, 327, 328, 329, 330, 331, 332] (by decide +kernel) (by decide +kernel)) (goodIn_sub (fun _ h => List.mem_cons_of_mem _ (List.mem_append_right _ h)) (by decide +kernel))
set_option maxRecDepth 20000 in
theorem gX6_execute_X1_countCommands : GoodIn wsX6_execute (wsV RX6 222 RX1 yX1_countCommands wsX1_countCommands) := goodIn_app (goodIn_of _ (by decide +kernel)) ggX6_execute_X1_countCommands
set_option maxRecDepth 20000 in
theorem ggX6_execute_X1_clear : GoodIn wsX6_execute wsX1_clear := goodIn_r _ [118, 16, 323, 324, 325, 326, 327] (by decide +kernel) (by decide +kernel)
set_option maxRecDepth 20000 in
theorem gX6_execute_X1_clear : GoodIn wsX6_execute (wsV RX6 228 RX1 yX1_clear wsX1_clear) := goodIn_app (goodIn_of _ (by decide +kernel)) ggX6_execute_X1_clear
set_option maxRecDepth 20000 in
theorem ggX6_execute_X6_beginChange : GoodIn wsX6_execute wsX6_beginChange := goodIn_r _ [123, 8, 7, 124, 125, 126, 127, 128, 129, 130, 131, 132, 133, 134, 135, 136, 137, 138, 139, 140, 141, 142, 143, 37, 144, 39, 145, 146, 47, 147, 148, 149, 150, 151, 311, 312, 313, 314, 315, 316, 317, 318, 319, 320, 321, 322, 333, 334, 335, 336, 337, 338, 339, 340, 341, 342, 343, 344, 328] (by decide +kernel) (by decide +kernel)
set_option maxRecDepth 20000 in
theorem gX6_execute_X6_beginChange : GoodIn wsX6_execute (wsV RX6 56 RX6 yX6_beginChange wsX6_beginChange) := goodIn_app (goodIn_of _ (by decide +kernel)) ggX6_execute_X6_beginChange
set_option maxRecDepth 20000 in
theorem ggX6_execute_X1_rewind : GoodIn wsX6_execute wsX1_rewind := goodIn_r _ [20, 15, 323, 324, 325, 326, 327] (by decide +kernel) (by decide +kernel)
set_option maxRecDepth 20000 in
theorem gX6_execute_X1_rewind : GoodIn wsX6_execute (wsV RX6 233 RX1 yX1_rewind wsX1_rewind) := goodIn_app (goodIn_of _ (by decide +kernel)) ggX6_execute_X1_rewind
set_option maxRecDepth 20000 in
theorem ggX6_execute_X1_readCommand : GoodIn wsX6_execute wsX1_readCommand := goodIn_ca (goodIn_r _ [24, 15, 25, 26, 27, 13, 28, 29, 30, 31, 32, 16, 33, 34, 35, 36, 37, 38, 39, 40, 41, 42, 43, 44, 45, 46, 47, 48, 49, 50, 51, 52, 53, 54, 55, 56, 57, 58, 59, 60, 61, 62, 63, 64, 65, 66, 67, 68, 69, 70, 71, 72, 73, 74, 75, 76, 77, 78, 79, 80, 81, 82, 83, 84, 85, 86, 87, 88, 89, 90, 91, 92, 93, 94, 95, 96, 97, 98, 99, 100, 101, 102, 103, 104, 105, 106, 107, 108, 109, 110, 111, 112, 113, 114, 323, 324, 325, 326, 327, 328, 329, 330, 331, 332] (by decide +kernel) (by decide +kernel)) (goodIn_sub (fun _ h => List.mem_cons_of_mem _ (List.mem_append_right _ h)) (by decide +kernel))
set_option maxRecDepth 20000 in
theorem gX6_execute_X1_readCommand : GoodIn wsX6_execute (wsV RX6 236 RX1 yX1_readCommand wsX1_readCommand) := goodIn_app (goodIn_of _ (by decide +kernel)) ggX6_execute_X1_readCommand
set_option maxRecDepth 20000 in
theorem ggX6_execute_X6_runCommand : GoodIn wsX6_execute wsX6_runCommand := goodIn_ca (goodIn_r _ [157, 5, 158, 159, 35, 36, 37, 38, 39, 160, 161, 162, 163, 164, 165, 166, 167, 168, 169, 122, 170, 7, 171, 172, 173, 174, 175, 176, 177, 178, 179, 180, 181, 182, 183, 127, 184, 130, 129, 185, 186, 187, 188, 189, 190, 112, 113, 114, 191, 192, 193, 194, 195, 196, 197, 198, 199, 200, 201, 202, 203, 204, 205, 206, 207, 208, 209, 210, 138, 211, 212, 213, 214, 131, 215, 216, 217, 218, 136, 132, 133, 134, 135, 219, 220, 221, 222, 223, 224, 225, 226, 227, 228, 229, 230, 231, 232, 233, 234, 235, 236, 237, 238, 239, 240, 241, 242, 243, 244, 245, 246, 247, 248, 249, 250, 251, 252, 253, 254, 255, 256, 257, 258, 259, 260, 261, 262, 263, 264, 265, 266, 267, 268, 269, 270, 271, 272, 137, 139, 273, 274, 275, 276, 277, 278, 279, 280, 281, 282, 283, 284, 285, 286, 287, 288, 289, 290, 291, 47, 292, 311, 312, 313, 314, 315, 316, 317, 318, 319, 320, 321, 322, 323, 324, 325, 326, 327, 328, 333, 334, 335, 336, 337, 338, 339, 340, 341, 342, 343, 344] (by decide +kernel) (by decide +kernel)) (goodIn_sub (fun _ h => List.mem_cons_of_mem _ (List.mem_append_right _ h)) (by decide +kernel))
set_option maxRecDepth 20000 in
theorem gX6_execute_X6_runCommand : GoodIn wsX6_execute (wsV RX6 240 RX6 yX6_runCommand wsX6_runCommand) := goodIn_app (goodIn_of _ (by decide +kernel)) ggX6_execute_X6_runCommand
set_option maxRecDepth 20000 in
theorem ggX6_execute_X5_copyFrom : GoodIn wsX6_execute wsX5_copyFrom := goodIn_r _ [128, 129, 130, 131, 132, 133, 134, 135, 136, 137, 138, 139, 140, 141, 142, 143, 37, 144, 39, 145, 146, 47, 147, 148, 149, 150, 151, 333, 334, 335, 336, 337, 338, 339, 340, 341, 342, 343, 344, 328] (by decide +kernel) (by decide +kernel)
set_option maxRecDepth 20000 in
theorem gX6_execute_X5_copyFrom : GoodIn wsX6_execute (wsV RX6 180 RX5 yX5_copyFrom wsX5_copyFrom) := goodIn_app (goodIn_of _ (by decide +kernel)) ggX6_execute_X5_copyFrom
set_option maxRecDepth 20000 in
theorem ggX6_execute_X6_denyText : GoodIn wsX6_execute wsX6_denyText := goodIn_r _ [296, 178, 180, 174, 175, 176, 122, 177, 179, 311, 312, 313, 314, 315, 316, 317, 318, 319, 320, 321, 322] (by decide +kernel) (by decide +kernel)
set_option maxRecDepth 20000 in
theorem gX6_execute_X6_denyText : GoodIn wsX6_execute (wsV RX6 243 RX6 yX6_denyText wsX6_denyText) := goodIn_app (goodIn_of _ (by decide +kernel)) ggX6_execute_X6_denyText
set_option maxRecDepth 20000 in
theorem ggX6_execute_X2_remember : GoodIn wsX6_execute wsX2_remember := goodIn_r _ [301, 302, 303, 304, 281, 282, 283, 305, 306, 307, 300, 308, 309, 310, 125, 126, 127, 128, 129, 130, 131, 132, 133, 134, 135, 136, 137, 138, 139, 140, 141, 142, 143, 37, 144, 39, 145, 146, 47, 147, 148, 149, 150, 151, 345, 346, 347, 333, 334, 335, 336, 337, 338, 339, 340, 341, 342, 343, 344, 328] (by decide +kernel) (by decide +kernel)
set_option maxRecDepth 20000 in
theorem gX6_execute_X2_remember : GoodIn wsX6_execute (wsV RX6 252 RX2 yX2_remember wsX2_remember) := goodIn_app (goodIn_of _ (by decide +kernel)) ggX6_execute_X2_remember
theorem dX6_execute_0 : decode cX6_execute 0 = .ok (.aload_n 0, 1) := by decide +kernel
theorem dX6_execute_1 : decode cX6_execute 1 = .ok (.getfield 35, 3) := by decide +kernel
theorem dX6_execute_4 : decode cX6_execute 4 = .ok (.invokevirtual 222, 3) := by decide +kernel
theorem dX6_execute_7 : decode cX6_execute 7 = .ok (.istore_n 1, 1) := by decide +kernel
theorem dX6_execute_8 : decode cX6_execute 8 = .ok (.iload_n 1, 1) := by decide +kernel
theorem dX6_execute_9 : decode cX6_execute 9 = .ok (.iconst (-1), 1) := by decide +kernel
theorem dX6_execute_10 : decode cX6_execute 10 = .ok (.if_icmp .ne 31, 3) := by decide +kernel
theorem dX6_execute_13 : decode cX6_execute 13 = .ok (.aload_n 0, 1) := by decide +kernel
theorem dX6_execute_14 : decode cX6_execute 14 = .ok (.aload_n 0, 1) := by decide +kernel
theorem dX6_execute_15 : decode cX6_execute 15 = .ok (.getfield 35, 3) := by decide +kernel
theorem dX6_execute_18 : decode cX6_execute 18 = .ok (.getfield 225, 3) := by decide +kernel
theorem dX6_execute_21 : decode cX6_execute 21 = .ok (.putfield 46, 3) := by decide +kernel
theorem dX6_execute_24 : decode cX6_execute 24 = .ok (.aload_n 0, 1) := by decide +kernel
theorem dX6_execute_25 : decode cX6_execute 25 = .ok (.getfield 35, 3) := by decide +kernel
theorem dX6_execute_28 : decode cX6_execute 28 = .ok (.invokevirtual 228, 3) := by decide +kernel
theorem dX6_execute_31 : decode cX6_execute 31 = .ok (.new 175, 3) := by decide +kernel
theorem dX6_execute_34 : decode cX6_execute 34 = .ok (.dup, 1) := by decide +kernel
theorem dX6_execute_35 : decode cX6_execute 35 = .ok (.ldc 231, 2) := by decide +kernel
theorem dX6_execute_37 : decode cX6_execute 37 = .ok (.invokespecial 179, 3) := by decide +kernel
theorem dX6_execute_40 : decode cX6_execute 40 = .ok (.athrow, 1) := by decide +kernel
theorem dX6_execute_41 : decode cX6_execute 41 = .ok (.aload_n 0, 1) := by decide +kernel
theorem dX6_execute_42 : decode cX6_execute 42 = .ok (.invokevirtual 56, 3) := by decide +kernel
theorem dX6_execute_45 : decode cX6_execute 45 = .ok (.aload_n 0, 1) := by decide +kernel
theorem dX6_execute_46 : decode cX6_execute 46 = .ok (.getfield 35, 3) := by decide +kernel
theorem dX6_execute_49 : decode cX6_execute 49 = .ok (.invokevirtual 233, 3) := by decide +kernel
theorem dX6_execute_52 : decode cX6_execute 52 = .ok (.iconst 0, 1) := by decide +kernel
theorem dX6_execute_53 : decode cX6_execute 53 = .ok (.istore_n 2, 1) := by decide +kernel
theorem dX6_execute_54 : decode cX6_execute 54 = .ok (.iload_n 2, 1) := by decide +kernel
theorem dX6_execute_55 : decode cX6_execute 55 = .ok (.iload_n 1, 1) := by decide +kernel
theorem dX6_execute_56 : decode cX6_execute 56 = .ok (.if_icmp .ge 67, 3) := by decide +kernel
theorem dX6_execute_59 : decode cX6_execute 59 = .ok (.aload_n 0, 1) := by decide +kernel
theorem dX6_execute_60 : decode cX6_execute 60 = .ok (.getfield 35, 3) := by decide +kernel
theorem dX6_execute_63 : decode cX6_execute 63 = .ok (.invokevirtual 236, 3) := by decide +kernel
theorem dX6_execute_66 : decode cX6_execute 66 = .ok (.ifCond .eq 10, 3) := by decide +kernel
theorem dX6_execute_69 : decode cX6_execute 69 = .ok (.aload_n 0, 1) := by decide +kernel
theorem dX6_execute_70 : decode cX6_execute 70 = .ok (.invokevirtual 240, 3) := by decide +kernel
theorem dX6_execute_73 : decode cX6_execute 73 = .ok (.goto 5, 3) := by decide +kernel
theorem dX6_execute_76 : decode cX6_execute 76 = .ok (.bipush (-2), 2) := by decide +kernel
theorem dX6_execute_78 : decode cX6_execute 78 = .ok (.istore_n 3, 1) := by decide +kernel
theorem dX6_execute_79 : decode cX6_execute 79 = .ok (.iload_n 3, 1) := by decide +kernel
theorem dX6_execute_80 : decode cX6_execute 80 = .ok (.ifCond .ge 37, 3) := by decide +kernel
theorem dX6_execute_83 : decode cX6_execute 83 = .ok (.aload_n 0, 1) := by decide +kernel
theorem dX6_execute_84 : decode cX6_execute 84 = .ok (.getfield 35, 3) := by decide +kernel
theorem dX6_execute_87 : decode cX6_execute 87 = .ok (.invokevirtual 228, 3) := by decide +kernel
theorem dX6_execute_90 : decode cX6_execute 90 = .ok (.aload_n 0, 1) := by decide +kernel
theorem dX6_execute_91 : decode cX6_execute 91 = .ok (.getfield 10, 3) := by decide +kernel
theorem dX6_execute_94 : decode cX6_execute 94 = .ok (.aload_n 0, 1) := by decide +kernel
theorem dX6_execute_95 : decode cX6_execute 95 = .ok (.getfield 16, 3) := by decide +kernel
theorem dX6_execute_98 : decode cX6_execute 98 = .ok (.invokevirtual 180, 3) := by decide +kernel
theorem dX6_execute_101 : decode cX6_execute 101 = .ok (.aload_n 0, 1) := by decide +kernel
theorem dX6_execute_102 : decode cX6_execute 102 = .ok (.iload_n 2, 1) := by decide +kernel
theorem dX6_execute_103 : decode cX6_execute 103 = .ok (.iload_n 3, 1) := by decide +kernel
theorem dX6_execute_104 : decode cX6_execute 104 = .ok (.invokevirtual 243, 3) := by decide +kernel
theorem dX6_execute_107 : decode cX6_execute 107 = .ok (.new 247, 3) := by decide +kernel
theorem dX6_execute_110 : decode cX6_execute 110 = .ok (.dup, 1) := by decide +kernel
theorem dX6_execute_111 : decode cX6_execute 111 = .ok (.ldc 249, 2) := by decide +kernel
theorem dX6_execute_113 : decode cX6_execute 113 = .ok (.invokespecial 251, 3) := by decide +kernel
theorem dX6_execute_116 : decode cX6_execute 116 = .ok (.athrow, 1) := by decide +kernel
theorem dX6_execute_117 : decode cX6_execute 117 = .ok (.iinc 2 1, 3) := by decide +kernel
theorem dX6_execute_120 : decode cX6_execute 120 = .ok (.goto (-66), 3) := by decide +kernel
theorem dX6_execute_123 : decode cX6_execute 123 = .ok (.aload_n 0, 1) := by decide +kernel
theorem dX6_execute_124 : decode cX6_execute 124 = .ok (.getfield 35, 3) := by decide +kernel
theorem dX6_execute_127 : decode cX6_execute 127 = .ok (.invokevirtual 228, 3) := by decide +kernel
theorem dX6_execute_130 : decode cX6_execute 130 = .ok (.aload_n 0, 1) := by decide +kernel
theorem dX6_execute_131 : decode cX6_execute 131 = .ok (.getfield 28, 3) := by decide +kernel
theorem dX6_execute_134 : decode cX6_execute 134 = .ok (.aload_n 0, 1) := by decide +kernel
theorem dX6_execute_135 : decode cX6_execute 135 = .ok (.getfield 16, 3) := by decide +kernel
theorem dX6_execute_138 : decode cX6_execute 138 = .ok (.invokevirtual 252, 3) := by decide +kernel
theorem dX6_execute_141 : decode cX6_execute 141 = .ok (.iload_n 1, 1) := by decide +kernel
theorem dX6_execute_142 : decode cX6_execute 142 = .ok (.ireturn, 1) := by decide +kernel
theorem dX6_faultPosition_0 : decode cX6_faultPosition 0 = .ok (.aload_n 0, 1) := by decide +kernel
theorem dX6_faultPosition_1 : decode cX6_faultPosition 1 = .ok (.getfield 46, 3) := by decide +kernel
theorem dX6_faultPosition_4 : decode cX6_faultPosition 4 = .ok (.iconst (-1), 1) := by decide +kernel
theorem dX6_faultPosition_5 : decode cX6_faultPosition 5 = .ok (.if_icmp .ne 13, 3) := by decide +kernel
theorem dX6_faultPosition_8 : decode cX6_faultPosition 8 = .ok (.new 96, 3) := by decide +kernel
theorem dX6_faultPosition_11 : decode cX6_faultPosition 11 = .ok (.dup, 1) := by decide +kernel
theorem dX6_faultPosition_12 : decode cX6_faultPosition 12 = .ok (.ldc 255, 2) := by decide +kernel
theorem dX6_faultPosition_14 : decode cX6_faultPosition 14 = .ok (.invokespecial 100, 3) := by decide +kernel
theorem dX6_faultPosition_17 : decode cX6_faultPosition 17 = .ok (.athrow, 1) := by decide +kernel
theorem dX6_faultPosition_18 : decode cX6_faultPosition 18 = .ok (.aload_n 0, 1) := by decide +kernel
theorem dX6_faultPosition_19 : decode cX6_faultPosition 19 = .ok (.getfield 46, 3) := by decide +kernel
theorem dX6_faultPosition_22 : decode cX6_faultPosition 22 = .ok (.ireturn, 1) := by decide +kernel
set_option maxRecDepth 20000 in
theorem ggX6_writeCertificate_X6_requireCertificate : GoodIn wsX6_writeCertificate wsX6_requireCertificate := goodIn_ca (goodIn_r _ [7, 8, 9, 2, 10, 11, 12, 13, 14, 15, 242, 243, 244, 245, 246, 247, 248, 249, 250, 251, 252, 253, 254, 255, 256, 257, 258, 259, 260, 261, 262, 263, 264, 265] (by decide +kernel) (by decide +kernel)) (goodIn_sub (fun _ h => List.mem_cons_of_mem _ (List.mem_append_left _ (List.mem_append_right _ h))) (by decide +kernel))
set_option maxRecDepth 20000 in
theorem gX6_writeCertificate_X6_requireCertificate : GoodIn wsX6_writeCertificate (wsV RX6 147 RX6 yX6_requireCertificate wsX6_requireCertificate) := goodIn_app (goodIn_of _ (by decide +kernel)) ggX6_writeCertificate_X6_requireCertificate
set_option maxRecDepth 20000 in
theorem ggX6_writeCertificate_J4_setLength_d00df : GoodIn wsX6_writeCertificate wsJ4_setLength_d00df := goodIn_r _ [20, 21, 22, 23, 24, 25, 26, 27, 28, 29, 30, 31, 32, 33, 34, 35, 36, 37, 38, 39, 40, 41, 42, 43, 44, 45, 46, 47, 48, 49, 50, 51, 52, 53, 54, 55, 56, 57, 58, 59, 60, 61, 62, 63, 64, 65, 66, 67, 68, 69, 70, 71, 72, 73, 74, 75, 76, 77, 78, 79, 80, 81, 82, 83, 84, 85, 86, 87, 88, 89, 90, 91, 92, 19, 93, 94, 95, 96, 97, 98, 99, 100, 266, 267, 268, 269, 270, 271, 272, 273, 274, 275, 276, 277, 278, 279, 280, 281] (by decide +kernel) (by decide +kernel)
set_option maxRecDepth 20000 in
theorem gX6_writeCertificate_J4_setLength_d00df : GoodIn wsX6_writeCertificate (wsV RX6 257 RJ4 yJ4_setLength_d00df wsJ4_setLength_d00df) := goodIn_app (goodIn_of _ (by decide +kernel)) ggX6_writeCertificate_J4_setLength_d00df
set_option maxRecDepth 20000 in
theorem ggX6_writeCertificate_X4_get : GoodIn wsX6_writeCertificate wsX4_get := goodIn_ca (goodIn_r _ [105, 106, 282] (by decide +kernel) (by decide +kernel)) (goodIn_sub (fun _ h => List.mem_cons_of_mem _ (List.mem_append_right _ h)) (by decide +kernel))
set_option maxRecDepth 20000 in
theorem gX6_writeCertificate_X4_get : GoodIn wsX6_writeCertificate (wsV RX6 85 RX4 yX4_get wsX4_get) := goodIn_app (goodIn_of _ (by decide +kernel)) ggX6_writeCertificate_X4_get
set_option maxRecDepth 20000 in
theorem ggX6_writeCertificate_J4_append_cf468 : GoodIn wsX6_writeCertificate wsJ4_append_cf468 := goodIn_r _ [110, 111, 112, 23, 113, 25, 114, 30, 31, 33, 34, 35, 36, 37, 38, 39, 40, 41, 42, 43, 44, 45, 46, 47, 48, 49, 50, 51, 52, 53, 54, 55, 56, 57, 58, 59, 60, 61, 62, 63, 64, 65, 66, 67, 68, 69, 70, 71, 72, 73, 74, 75, 76, 77, 78, 79, 80, 115, 116, 83, 117, 118, 119, 120, 121, 122, 123, 124, 98, 125, 126, 127, 128, 129, 130, 131, 132, 133, 134, 135, 136, 137, 138, 139, 140, 141, 142, 143, 144, 145, 146, 147, 148, 149, 150, 151, 152, 153, 154, 155, 156, 157, 158, 159, 160, 161, 162, 163, 164, 165, 166, 167, 168, 272, 273, 274, 275] (by decide +kernel) (by decide +kernel)
set_option maxRecDepth 20000 in
theorem gX6_writeCertificate_J4_append_cf468 : GoodIn wsX6_writeCertificate (wsV RX6 260 RJ4 yJ4_append_cf468 wsJ4_append_cf468) := goodIn_app (goodIn_of _ (by decide +kernel)) ggX6_writeCertificate_J4_append_cf468
set_option maxRecDepth 20000 in
theorem ggX6_writeCertificate_J4_append_bf812 : GoodIn wsX6_writeCertificate wsJ4_append_bf812 := goodIn_r _ [172, 173, 174, 23, 175, 25, 176, 30, 31, 177, 178, 179, 180, 33, 34, 35, 36, 37, 38, 39, 40, 41, 42, 43, 44, 45, 46, 47, 48, 49, 50, 51, 52, 53, 54, 55, 56, 57, 58, 59, 60, 61, 62, 63, 64, 65, 66, 67, 68, 69, 70, 71, 72, 73, 74, 75, 76, 77, 78, 79, 80, 181, 182, 183, 184, 185, 186, 187, 98, 188, 154, 189, 190, 191, 139, 140, 141, 192, 193, 144, 194, 146, 195, 196, 149, 197, 198, 199, 200, 201, 202, 151, 152, 153, 155, 156, 272, 273, 274, 275] (by decide +kernel) (by decide +kernel)
set_option maxRecDepth 20000 in
theorem gX6_writeCertificate_J4_append_bf812 : GoodIn wsX6_writeCertificate (wsV RX6 263 RJ4 yJ4_append_bf812 wsJ4_append_bf812) := goodIn_app (goodIn_of _ (by decide +kernel)) ggX6_writeCertificate_J4_append_bf812
set_option maxRecDepth 20000 in
theorem ggX6_writeCertificate_X5_inForceNow : GoodIn wsX6_writeCertificate wsX5_inForceNow := goodIn_ca (goodIn_r _ [206, 207, 208, 209, 210, 13, 211, 212, 213, 214, 215, 216, 217, 218, 219, 220, 15, 221, 222, 223, 224, 225, 226, 102, 103, 104, 105, 106, 227, 6, 228, 229, 230, 231, 232, 254, 255, 256, 257, 258, 259, 260, 261, 262, 263, 264, 265, 282] (by decide +kernel) (by decide +kernel)) (goodIn_sub (fun _ h => List.mem_cons_of_mem _ (List.mem_append_right _ h)) (by decide +kernel))
set_option maxRecDepth 20000 in
theorem gX6_writeCertificate_X5_inForceNow : GoodIn wsX6_writeCertificate (wsV RX6 126 RX5 yX5_inForceNow wsX5_inForceNow) := goodIn_app (goodIn_of _ (by decide +kernel)) ggX6_writeCertificate_X5_inForceNow
set_option maxRecDepth 20000 in
theorem ggX6_writeCertificate_X6_has : GoodIn wsX6_writeCertificate wsX6_has := goodIn_r _ [228] (by decide +kernel) (by decide +kernel)
set_option maxRecDepth 20000 in
theorem gX6_writeCertificate_X6_has : GoodIn wsX6_writeCertificate (va_wsS RX6 106 yX6_has wsX6_has) := goodIn_app (goodIn_of _ (by decide +kernel)) ggX6_writeCertificate_X6_has
set_option maxRecDepth 20000 in
theorem ggX6_writeCertificate_J4_length_8abf5 : GoodIn wsX6_writeCertificate wsJ4_length_8abf5 := goodIn_r _ [237, 238, 239, 23, 240, 25, 241, 30, 272, 273, 274, 275] (by decide +kernel) (by decide +kernel)
set_option maxRecDepth 20000 in
theorem gX6_writeCertificate_J4_length_8abf5 : GoodIn wsX6_writeCertificate (wsV RX6 266 RJ4 yJ4_length_8abf5 wsJ4_length_8abf5) := goodIn_app (goodIn_of _ (by decide +kernel)) ggX6_writeCertificate_J4_length_8abf5
theorem dX6_writeCertificate_0 : decode cX6_writeCertificate 0 = .ok (.aload_n 0, 1) := by decide +kernel
theorem dX6_writeCertificate_1 : decode cX6_writeCertificate 1 = .ok (.iload_n 1, 1) := by decide +kernel
theorem dX6_writeCertificate_2 : decode cX6_writeCertificate 2 = .ok (.invokevirtual 147, 3) := by decide +kernel
theorem dX6_writeCertificate_5 : decode cX6_writeCertificate 5 = .ok (.aload_n 0, 1) := by decide +kernel
theorem dX6_writeCertificate_6 : decode cX6_writeCertificate 6 = .ok (.getfield 42, 3) := by decide +kernel
theorem dX6_writeCertificate_9 : decode cX6_writeCertificate 9 = .ok (.iconst 0, 1) := by decide +kernel
theorem dX6_writeCertificate_10 : decode cX6_writeCertificate 10 = .ok (.invokevirtual 257, 3) := by decide +kernel
theorem dX6_writeCertificate_13 : decode cX6_writeCertificate 13 = .ok (.aload_n 0, 1) := by decide +kernel
theorem dX6_writeCertificate_14 : decode cX6_writeCertificate 14 = .ok (.getfield 10, 3) := by decide +kernel
theorem dX6_writeCertificate_17 : decode cX6_writeCertificate 17 = .ok (.getfield 150, 3) := by decide +kernel
theorem dX6_writeCertificate_20 : decode cX6_writeCertificate 20 = .ok (.iload_n 1, 1) := by decide +kernel
theorem dX6_writeCertificate_21 : decode cX6_writeCertificate 21 = .ok (.invokevirtual 85, 3) := by decide +kernel
theorem dX6_writeCertificate_24 : decode cX6_writeCertificate 24 = .ok (.istore_n 2, 1) := by decide +kernel
theorem dX6_writeCertificate_25 : decode cX6_writeCertificate 25 = .ok (.iload_n 2, 1) := by decide +kernel
theorem dX6_writeCertificate_26 : decode cX6_writeCertificate 26 = .ok (.iconst (-1), 1) := by decide +kernel
theorem dX6_writeCertificate_27 : decode cX6_writeCertificate 27 = .ok (.if_icmp .ne 16, 3) := by decide +kernel
theorem dX6_writeCertificate_30 : decode cX6_writeCertificate 30 = .ok (.aload_n 0, 1) := by decide +kernel
theorem dX6_writeCertificate_31 : decode cX6_writeCertificate 31 = .ok (.getfield 42, 3) := by decide +kernel
theorem dX6_writeCertificate_34 : decode cX6_writeCertificate 34 = .ok (.bipush 82, 2) := by decide +kernel
theorem dX6_writeCertificate_36 : decode cX6_writeCertificate 36 = .ok (.invokevirtual 260, 3) := by decide +kernel
theorem dX6_writeCertificate_39 : decode cX6_writeCertificate 39 = .ok (.pop, 1) := by decide +kernel
theorem dX6_writeCertificate_40 : decode cX6_writeCertificate 40 = .ok (.goto 12, 3) := by decide +kernel
theorem dX6_writeCertificate_43 : decode cX6_writeCertificate 43 = .ok (.aload_n 0, 1) := by decide +kernel
theorem dX6_writeCertificate_44 : decode cX6_writeCertificate 44 = .ok (.getfield 42, 3) := by decide +kernel
theorem dX6_writeCertificate_47 : decode cX6_writeCertificate 47 = .ok (.iload_n 2, 1) := by decide +kernel
theorem dX6_writeCertificate_48 : decode cX6_writeCertificate 48 = .ok (.invokevirtual 263, 3) := by decide +kernel
theorem dX6_writeCertificate_51 : decode cX6_writeCertificate 51 = .ok (.pop, 1) := by decide +kernel
theorem dX6_writeCertificate_52 : decode cX6_writeCertificate 52 = .ok (.aload_n 0, 1) := by decide +kernel
theorem dX6_writeCertificate_53 : decode cX6_writeCertificate 53 = .ok (.getfield 42, 3) := by decide +kernel
theorem dX6_writeCertificate_56 : decode cX6_writeCertificate 56 = .ok (.bipush 62, 2) := by decide +kernel
theorem dX6_writeCertificate_58 : decode cX6_writeCertificate 58 = .ok (.invokevirtual 260, 3) := by decide +kernel
theorem dX6_writeCertificate_61 : decode cX6_writeCertificate 61 = .ok (.pop, 1) := by decide +kernel
theorem dX6_writeCertificate_62 : decode cX6_writeCertificate 62 = .ok (.aload_n 0, 1) := by decide +kernel
theorem dX6_writeCertificate_63 : decode cX6_writeCertificate 63 = .ok (.getfield 42, 3) := by decide +kernel
theorem dX6_writeCertificate_66 : decode cX6_writeCertificate 66 = .ok (.aload_n 0, 1) := by decide +kernel
theorem dX6_writeCertificate_67 : decode cX6_writeCertificate 67 = .ok (.getfield 10, 3) := by decide +kernel
theorem dX6_writeCertificate_70 : decode cX6_writeCertificate 70 = .ok (.getfield 155, 3) := by decide +kernel
theorem dX6_writeCertificate_73 : decode cX6_writeCertificate 73 = .ok (.iload_n 1, 1) := by decide +kernel
theorem dX6_writeCertificate_74 : decode cX6_writeCertificate 74 = .ok (.invokevirtual 85, 3) := by decide +kernel
theorem dX6_writeCertificate_77 : decode cX6_writeCertificate 77 = .ok (.invokevirtual 263, 3) := by decide +kernel
theorem dX6_writeCertificate_80 : decode cX6_writeCertificate 80 = .ok (.pop, 1) := by decide +kernel
theorem dX6_writeCertificate_81 : decode cX6_writeCertificate 81 = .ok (.aload_n 0, 1) := by decide +kernel
theorem dX6_writeCertificate_82 : decode cX6_writeCertificate 82 = .ok (.getfield 42, 3) := by decide +kernel
theorem dX6_writeCertificate_85 : decode cX6_writeCertificate 85 = .ok (.bipush 64, 2) := by decide +kernel
theorem dX6_writeCertificate_87 : decode cX6_writeCertificate 87 = .ok (.invokevirtual 260, 3) := by decide +kernel
theorem dX6_writeCertificate_90 : decode cX6_writeCertificate 90 = .ok (.pop, 1) := by decide +kernel
theorem dX6_writeCertificate_91 : decode cX6_writeCertificate 91 = .ok (.aload_n 0, 1) := by decide +kernel
theorem dX6_writeCertificate_92 : decode cX6_writeCertificate 92 = .ok (.getfield 42, 3) := by decide +kernel
theorem dX6_writeCertificate_95 : decode cX6_writeCertificate 95 = .ok (.aload_n 0, 1) := by decide +kernel
theorem dX6_writeCertificate_96 : decode cX6_writeCertificate 96 = .ok (.getfield 10, 3) := by decide +kernel
theorem dX6_writeCertificate_99 : decode cX6_writeCertificate 99 = .ok (.getfield 158, 3) := by decide +kernel
theorem dX6_writeCertificate_102 : decode cX6_writeCertificate 102 = .ok (.iload_n 1, 1) := by decide +kernel
theorem dX6_writeCertificate_103 : decode cX6_writeCertificate 103 = .ok (.invokevirtual 85, 3) := by decide +kernel
theorem dX6_writeCertificate_106 : decode cX6_writeCertificate 106 = .ok (.invokevirtual 263, 3) := by decide +kernel
theorem dX6_writeCertificate_109 : decode cX6_writeCertificate 109 = .ok (.pop, 1) := by decide +kernel
theorem dX6_writeCertificate_110 : decode cX6_writeCertificate 110 = .ok (.aload_n 0, 1) := by decide +kernel
theorem dX6_writeCertificate_111 : decode cX6_writeCertificate 111 = .ok (.getfield 42, 3) := by decide +kernel
theorem dX6_writeCertificate_114 : decode cX6_writeCertificate 114 = .ok (.bipush 60, 2) := by decide +kernel
theorem dX6_writeCertificate_116 : decode cX6_writeCertificate 116 = .ok (.invokevirtual 260, 3) := by decide +kernel
theorem dX6_writeCertificate_119 : decode cX6_writeCertificate 119 = .ok (.pop, 1) := by decide +kernel
theorem dX6_writeCertificate_120 : decode cX6_writeCertificate 120 = .ok (.aload_n 0, 1) := by decide +kernel
theorem dX6_writeCertificate_121 : decode cX6_writeCertificate 121 = .ok (.getfield 42, 3) := by decide +kernel
theorem dX6_writeCertificate_124 : decode cX6_writeCertificate 124 = .ok (.aload_n 0, 1) := by decide +kernel
theorem dX6_writeCertificate_125 : decode cX6_writeCertificate 125 = .ok (.getfield 10, 3) := by decide +kernel
theorem dX6_writeCertificate_128 : decode cX6_writeCertificate 128 = .ok (.getfield 161, 3) := by decide +kernel
theorem dX6_writeCertificate_131 : decode cX6_writeCertificate 131 = .ok (.iload_n 1, 1) := by decide +kernel
theorem dX6_writeCertificate_132 : decode cX6_writeCertificate 132 = .ok (.invokevirtual 85, 3) := by decide +kernel
theorem dX6_writeCertificate_135 : decode cX6_writeCertificate 135 = .ok (.invokevirtual 263, 3) := by decide +kernel
theorem dX6_writeCertificate_138 : decode cX6_writeCertificate 138 = .ok (.pop, 1) := by decide +kernel
theorem dX6_writeCertificate_139 : decode cX6_writeCertificate 139 = .ok (.aload_n 0, 1) := by decide +kernel
theorem dX6_writeCertificate_140 : decode cX6_writeCertificate 140 = .ok (.getfield 10, 3) := by decide +kernel
theorem dX6_writeCertificate_143 : decode cX6_writeCertificate 143 = .ok (.invokevirtual 126, 3) := by decide +kernel
theorem dX6_writeCertificate_146 : decode cX6_writeCertificate 146 = .ok (.iload_n 1, 1) := by decide +kernel
theorem dX6_writeCertificate_147 : decode cX6_writeCertificate 147 = .ok (.invokestatic 106, 3) := by decide +kernel
theorem dX6_writeCertificate_150 : decode cX6_writeCertificate 150 = .ok (.ifCond .eq 13, 3) := by decide +kernel
theorem dX6_writeCertificate_153 : decode cX6_writeCertificate 153 = .ok (.aload_n 0, 1) := by decide +kernel
theorem dX6_writeCertificate_154 : decode cX6_writeCertificate 154 = .ok (.getfield 42, 3) := by decide +kernel
theorem dX6_writeCertificate_157 : decode cX6_writeCertificate 157 = .ok (.bipush 33, 2) := by decide +kernel
theorem dX6_writeCertificate_159 : decode cX6_writeCertificate 159 = .ok (.invokevirtual 260, 3) := by decide +kernel
theorem dX6_writeCertificate_162 : decode cX6_writeCertificate 162 = .ok (.pop, 1) := by decide +kernel
theorem dX6_writeCertificate_163 : decode cX6_writeCertificate 163 = .ok (.aload_n 0, 1) := by decide +kernel
theorem dX6_writeCertificate_164 : decode cX6_writeCertificate 164 = .ok (.getfield 42, 3) := by decide +kernel
theorem dX6_writeCertificate_167 : decode cX6_writeCertificate 167 = .ok (.invokevirtual 266, 3) := by decide +kernel
theorem dX6_writeCertificate_170 : decode cX6_writeCertificate 170 = .ok (.ireturn, 1) := by decide +kernel
set_option maxRecDepth 20000 in
theorem ggX6_writeFields_X5_certifiedNow : GoodIn wsX6_writeFields wsX5_certifiedNow := goodIn_ca (goodIn_r _ [7, 8, 9, 10, 11, 6, 12, 13, 14, 15, 16, 17, 18, 19, 20, 21, 22, 23, 24, 25, 26, 27, 28, 29, 30, 31, 32, 33, 34, 35, 36, 222, 223, 224, 225, 226, 227, 228, 229, 230, 231, 232, 233, 234] (by decide +kernel) (by decide +kernel)) (goodIn_sub (fun _ h => List.mem_cons_of_mem _ (List.mem_append_right _ h)) (by decide +kernel))
set_option maxRecDepth 20000 in
theorem gX6_writeFields_X5_certifiedNow : GoodIn wsX6_writeFields (wsV RX6 110 RX5 yX5_certifiedNow wsX5_certifiedNow) := goodIn_app (goodIn_of _ (by decide +kernel)) ggX6_writeFields_X5_certifiedNow
set_option maxRecDepth 20000 in
theorem ggX6_writeFields_J4_setLength_d00df : GoodIn wsX6_writeFields wsJ4_setLength_d00df := goodIn_r _ [41, 42, 43, 44, 45, 46, 47, 48, 49, 50, 51, 52, 53, 54, 55, 56, 57, 58, 59, 60, 61, 62, 63, 64, 65, 66, 67, 68, 69, 70, 71, 72, 73, 74, 75, 76, 77, 78, 79, 80, 81, 82, 83, 84, 85, 86, 87, 88, 89, 90, 91, 92, 93, 94, 95, 96, 97, 98, 99, 100, 101, 102, 103, 104, 105, 106, 107, 108, 109, 110, 111, 112, 113, 40, 114, 115, 116, 117, 118, 119, 120, 121, 235, 236, 237, 238, 239, 240, 241, 242, 243, 244, 245, 246, 247, 248, 249, 250] (by decide +kernel) (by decide +kernel)
set_option maxRecDepth 20000 in
theorem gX6_writeFields_J4_setLength_d00df : GoodIn wsX6_writeFields (wsV RX6 257 RJ4 yJ4_setLength_d00df wsJ4_setLength_d00df) := goodIn_app (goodIn_of _ (by decide +kernel)) ggX6_writeFields_J4_setLength_d00df
set_option maxRecDepth 20000 in
theorem ggX6_writeFields_J4_append_cf468 : GoodIn wsX6_writeFields wsJ4_append_cf468 := goodIn_r _ [125, 126, 127, 44, 128, 46, 129, 51, 52, 54, 55, 56, 57, 58, 59, 60, 61, 62, 63, 64, 65, 66, 67, 68, 69, 70, 71, 72, 73, 74, 75, 76, 77, 78, 79, 80, 81, 82, 83, 84, 85, 86, 87, 88, 89, 90, 91, 92, 93, 94, 95, 96, 97, 98, 99, 100, 101, 130, 131, 104, 132, 133, 134, 135, 136, 137, 138, 139, 119, 140, 141, 142, 143, 144, 145, 146, 147, 148, 149, 150, 151, 152, 153, 154, 155, 156, 157, 158, 159, 160, 161, 162, 163, 164, 165, 166, 167, 168, 169, 170, 171, 172, 173, 174, 175, 176, 177, 178, 179, 180, 181, 182, 183, 241, 242, 243, 244] (by decide +kernel) (by decide +kernel)
set_option maxRecDepth 20000 in
theorem gX6_writeFields_J4_append_cf468 : GoodIn wsX6_writeFields (wsV RX6 260 RJ4 yJ4_append_cf468 wsJ4_append_cf468) := goodIn_app (goodIn_of _ (by decide +kernel)) ggX6_writeFields_J4_append_cf468
set_option maxRecDepth 20000 in
theorem ggX6_writeFields_X5_signOf : GoodIn wsX6_writeFields wsX5_signOf := goodIn_ca (goodIn_r _ [187, 13, 188, 189, 190, 6, 191, 192, 20, 24, 25, 26, 27, 28, 29, 193, 194, 195, 196, 30, 31, 32, 197, 198, 199, 200, 72, 201, 222, 223, 224, 225, 226, 227, 228, 229, 230, 231, 232, 233, 234] (by decide +kernel) (by decide +kernel)) (goodIn_sub (fun _ h => List.mem_cons_of_mem _ (List.mem_append_right _ h)) (by decide +kernel))
set_option maxRecDepth 20000 in
theorem gX6_writeFields_X5_signOf : GoodIn wsX6_writeFields (wsV RX6 268 RX5 yX5_signOf wsX5_signOf) := goodIn_app (goodIn_of _ (by decide +kernel)) ggX6_writeFields_X5_signOf
set_option maxRecDepth 20000 in
theorem ggX6_writeFields_J4_length_8abf5 : GoodIn wsX6_writeFields wsJ4_length_8abf5 := goodIn_r _ [205, 206, 207, 44, 208, 46, 209, 51, 241, 242, 243, 244] (by decide +kernel) (by decide +kernel)
set_option maxRecDepth 20000 in
theorem gX6_writeFields_J4_length_8abf5 : GoodIn wsX6_writeFields (wsV RX6 266 RJ4 yJ4_length_8abf5 wsJ4_length_8abf5) := goodIn_app (goodIn_of _ (by decide +kernel)) ggX6_writeFields_J4_length_8abf5
theorem dX6_writeFields_0 : decode cX6_writeFields 0 = .ok (.aload_n 0, 1) := by decide +kernel
theorem dX6_writeFields_1 : decode cX6_writeFields 1 = .ok (.getfield 10, 3) := by decide +kernel
theorem dX6_writeFields_4 : decode cX6_writeFields 4 = .ok (.invokevirtual 110, 3) := by decide +kernel
theorem dX6_writeFields_7 : decode cX6_writeFields 7 = .ok (.istore_n 1, 1) := by decide +kernel
theorem dX6_writeFields_8 : decode cX6_writeFields 8 = .ok (.aload_n 0, 1) := by decide +kernel
theorem dX6_writeFields_9 : decode cX6_writeFields 9 = .ok (.getfield 42, 3) := by decide +kernel
theorem dX6_writeFields_12 : decode cX6_writeFields 12 = .ok (.iconst 0, 1) := by decide +kernel
theorem dX6_writeFields_13 : decode cX6_writeFields 13 = .ok (.invokevirtual 257, 3) := by decide +kernel
theorem dX6_writeFields_16 : decode cX6_writeFields 16 = .ok (.iconst 0, 1) := by decide +kernel
theorem dX6_writeFields_17 : decode cX6_writeFields 17 = .ok (.istore_n 2, 1) := by decide +kernel
theorem dX6_writeFields_18 : decode cX6_writeFields 18 = .ok (.iload_n 2, 1) := by decide +kernel
theorem dX6_writeFields_19 : decode cX6_writeFields 19 = .ok (.bipush 16, 2) := by decide +kernel
theorem dX6_writeFields_21 : decode cX6_writeFields 21 = .ok (.if_icmp .ge 46, 3) := by decide +kernel
theorem dX6_writeFields_24 : decode cX6_writeFields 24 = .ok (.iload_n 2, 1) := by decide +kernel
theorem dX6_writeFields_25 : decode cX6_writeFields 25 = .ok (.ifCond .le 19, 3) := by decide +kernel
theorem dX6_writeFields_28 : decode cX6_writeFields 28 = .ok (.iload_n 2, 1) := by decide +kernel
theorem dX6_writeFields_29 : decode cX6_writeFields 29 = .ok (.iconst 4, 1) := by decide +kernel
theorem dX6_writeFields_30 : decode cX6_writeFields 30 = .ok (.irem, 1) := by decide +kernel
theorem dX6_writeFields_31 : decode cX6_writeFields 31 = .ok (.ifCond .ne 13, 3) := by decide +kernel
theorem dX6_writeFields_34 : decode cX6_writeFields 34 = .ok (.aload_n 0, 1) := by decide +kernel
theorem dX6_writeFields_35 : decode cX6_writeFields 35 = .ok (.getfield 42, 3) := by decide +kernel
theorem dX6_writeFields_38 : decode cX6_writeFields 38 = .ok (.bipush 47, 2) := by decide +kernel
theorem dX6_writeFields_40 : decode cX6_writeFields 40 = .ok (.invokevirtual 260, 3) := by decide +kernel
theorem dX6_writeFields_43 : decode cX6_writeFields 43 = .ok (.pop, 1) := by decide +kernel
theorem dX6_writeFields_44 : decode cX6_writeFields 44 = .ok (.aload_n 0, 1) := by decide +kernel
theorem dX6_writeFields_45 : decode cX6_writeFields 45 = .ok (.getfield 42, 3) := by decide +kernel
theorem dX6_writeFields_48 : decode cX6_writeFields 48 = .ok (.aload_n 0, 1) := by decide +kernel
theorem dX6_writeFields_49 : decode cX6_writeFields 49 = .ok (.getfield 10, 3) := by decide +kernel
theorem dX6_writeFields_52 : decode cX6_writeFields 52 = .ok (.iload_n 2, 1) := by decide +kernel
theorem dX6_writeFields_53 : decode cX6_writeFields 53 = .ok (.iload_n 1, 1) := by decide +kernel
theorem dX6_writeFields_54 : decode cX6_writeFields 54 = .ok (.invokevirtual 268, 3) := by decide +kernel
theorem dX6_writeFields_57 : decode cX6_writeFields 57 = .ok (.invokevirtual 260, 3) := by decide +kernel
theorem dX6_writeFields_60 : decode cX6_writeFields 60 = .ok (.pop, 1) := by decide +kernel
theorem dX6_writeFields_61 : decode cX6_writeFields 61 = .ok (.iinc 2 1, 3) := by decide +kernel
theorem dX6_writeFields_64 : decode cX6_writeFields 64 = .ok (.goto (-46), 3) := by decide +kernel
theorem dX6_writeFields_67 : decode cX6_writeFields 67 = .ok (.aload_n 0, 1) := by decide +kernel
theorem dX6_writeFields_68 : decode cX6_writeFields 68 = .ok (.getfield 42, 3) := by decide +kernel
theorem dX6_writeFields_71 : decode cX6_writeFields 71 = .ok (.invokevirtual 266, 3) := by decide +kernel
theorem dX6_writeFields_74 : decode cX6_writeFields 74 = .ok (.ireturn, 1) := by decide +kernel
set_option maxRecDepth 20000 in
theorem ggX6_lineCharacter_J4_length_8abf5 : GoodIn wsX6_lineCharacter wsJ4_length_8abf5 := goodIn_r _ [8, 9, 10, 11, 12, 13, 14, 15, 61, 62, 63, 64] (by decide +kernel) (by decide +kernel)
set_option maxRecDepth 20000 in
theorem gX6_lineCharacter_J4_length_8abf5 : GoodIn wsX6_lineCharacter (wsV RX6 266 RJ4 yJ4_length_8abf5 wsJ4_length_8abf5) := goodIn_app (goodIn_of _ (by decide +kernel)) ggX6_lineCharacter_J4_length_8abf5
set_option maxRecDepth 20000 in
theorem ggX6_lineCharacter_J4_charAt_5068e : GoodIn wsX6_lineCharacter wsJ4_charAt_5068e := goodIn_r _ [19, 20, 21, 11, 22, 13, 23, 24, 25, 15, 26, 27, 28, 29, 30, 31, 32, 33, 34, 35, 36, 37, 38, 39, 40, 41, 42, 43, 44, 45, 46, 47, 48, 61, 62, 63, 64] (by decide +kernel) (by decide +kernel)
set_option maxRecDepth 20000 in
theorem gX6_lineCharacter_J4_charAt_5068e : GoodIn wsX6_lineCharacter (wsV RX6 277 RJ4 yJ4_charAt_5068e wsJ4_charAt_5068e) := goodIn_app (goodIn_of _ (by decide +kernel)) ggX6_lineCharacter_J4_charAt_5068e
theorem dX6_lineCharacter_0 : decode cX6_lineCharacter 0 = .ok (.iload_n 1, 1) := by decide +kernel
theorem dX6_lineCharacter_1 : decode cX6_lineCharacter 1 = .ok (.ifCond .lt 14, 3) := by decide +kernel
theorem dX6_lineCharacter_4 : decode cX6_lineCharacter 4 = .ok (.iload_n 1, 1) := by decide +kernel
theorem dX6_lineCharacter_5 : decode cX6_lineCharacter 5 = .ok (.aload_n 0, 1) := by decide +kernel
theorem dX6_lineCharacter_6 : decode cX6_lineCharacter 6 = .ok (.getfield 42, 3) := by decide +kernel
theorem dX6_lineCharacter_9 : decode cX6_lineCharacter 9 = .ok (.invokevirtual 266, 3) := by decide +kernel
theorem dX6_lineCharacter_12 : decode cX6_lineCharacter 12 = .ok (.if_icmp .lt 14, 3) := by decide +kernel
theorem dX6_lineCharacter_15 : decode cX6_lineCharacter 15 = .ok (.new 272, 3) := by decide +kernel
theorem dX6_lineCharacter_18 : decode cX6_lineCharacter 18 = .ok (.dup, 1) := by decide +kernel
theorem dX6_lineCharacter_19 : decode cX6_lineCharacter 19 = .ok (.ldc_w 274, 3) := by decide +kernel
theorem dX6_lineCharacter_22 : decode cX6_lineCharacter 22 = .ok (.invokespecial 276, 3) := by decide +kernel
theorem dX6_lineCharacter_25 : decode cX6_lineCharacter 25 = .ok (.athrow, 1) := by decide +kernel
theorem dX6_lineCharacter_26 : decode cX6_lineCharacter 26 = .ok (.aload_n 0, 1) := by decide +kernel
theorem dX6_lineCharacter_27 : decode cX6_lineCharacter 27 = .ok (.getfield 42, 3) := by decide +kernel
theorem dX6_lineCharacter_30 : decode cX6_lineCharacter 30 = .ok (.iload_n 1, 1) := by decide +kernel
theorem dX6_lineCharacter_31 : decode cX6_lineCharacter 31 = .ok (.invokevirtual 277, 3) := by decide +kernel
theorem dX6_lineCharacter_34 : decode cX6_lineCharacter 34 = .ok (.ireturn, 1) := by decide +kernel
set_option maxRecDepth 20000 in
theorem ggX6_denial_X6_requireDenial : GoodIn wsX6_denial wsX6_requireDenial := goodIn_ca (goodIn_r _ [6, 7, 8, 1, 9, 10, 11, 12, 13, 14, 15, 16, 17, 18, 19, 20] (by decide +kernel) (by decide +kernel)) (goodIn_sub (fun _ h => List.mem_cons_of_mem _ (List.mem_append_right _ h)) (by decide +kernel))
set_option maxRecDepth 20000 in
theorem gX6_denial_X6_requireDenial : GoodIn wsX6_denial (wsV RX6 281 RX6 yX6_requireDenial wsX6_requireDenial) := goodIn_app (goodIn_of _ (by decide +kernel)) ggX6_denial_X6_requireDenial
theorem dX6_denial_0 : decode cX6_denial 0 = .ok (.aload_n 0, 1) := by decide +kernel
theorem dX6_denial_1 : decode cX6_denial 1 = .ok (.invokevirtual 281, 3) := by decide +kernel
theorem dX6_denial_4 : decode cX6_denial 4 = .ok (.aload_n 0, 1) := by decide +kernel
theorem dX6_denial_5 : decode cX6_denial 5 = .ok (.getfield 50, 3) := by decide +kernel
theorem dX6_denial_8 : decode cX6_denial 8 = .ok (.ireturn, 1) := by decide +kernel
set_option maxRecDepth 20000 in
theorem ggX6_denialDetail_X6_requireDenial : GoodIn wsX6_denialDetail wsX6_requireDenial := goodIn_ca (goodIn_r _ [6, 7, 8, 9, 10, 11, 12, 13, 14, 15, 16, 17, 18, 19, 20, 21] (by decide +kernel) (by decide +kernel)) (goodIn_sub (fun _ h => List.mem_cons_of_mem _ (List.mem_append_right _ h)) (by decide +kernel))
set_option maxRecDepth 20000 in
theorem gX6_denialDetail_X6_requireDenial : GoodIn wsX6_denialDetail (wsV RX6 281 RX6 yX6_requireDenial wsX6_requireDenial) := goodIn_app (goodIn_of _ (by decide +kernel)) ggX6_denialDetail_X6_requireDenial
theorem dX6_denialDetail_0 : decode cX6_denialDetail 0 = .ok (.aload_n 0, 1) := by decide +kernel
theorem dX6_denialDetail_1 : decode cX6_denialDetail 1 = .ok (.invokevirtual 281, 3) := by decide +kernel
theorem dX6_denialDetail_4 : decode cX6_denialDetail 4 = .ok (.aload_n 0, 1) := by decide +kernel
theorem dX6_denialDetail_5 : decode cX6_denialDetail 5 = .ok (.getfield 284, 3) := by decide +kernel
theorem dX6_denialDetail_8 : decode cX6_denialDetail 8 = .ok (.ireturn, 1) := by decide +kernel
theorem dX6_denialCause_0 : decode cX6_denialCause 0 = .ok (.aload_n 0, 1) := by decide +kernel
theorem dX6_denialCause_1 : decode cX6_denialCause 1 = .ok (.getfield 53, 3) := by decide +kernel
theorem dX6_denialCause_4 : decode cX6_denialCause 4 = .ok (.ifCond .ne 14, 3) := by decide +kernel
theorem dX6_denialCause_7 : decode cX6_denialCause 7 = .ok (.new 96, 3) := by decide +kernel
theorem dX6_denialCause_10 : decode cX6_denialCause 10 = .ok (.dup, 1) := by decide +kernel
theorem dX6_denialCause_11 : decode cX6_denialCause 11 = .ok (.ldc_w 287, 3) := by decide +kernel
theorem dX6_denialCause_14 : decode cX6_denialCause 14 = .ok (.invokespecial 100, 3) := by decide +kernel
theorem dX6_denialCause_17 : decode cX6_denialCause 17 = .ok (.athrow, 1) := by decide +kernel
theorem dX6_denialCause_18 : decode cX6_denialCause 18 = .ok (.aload_n 0, 1) := by decide +kernel
theorem dX6_denialCause_19 : decode cX6_denialCause 19 = .ok (.getfield 53, 3) := by decide +kernel
theorem dX6_denialCause_22 : decode cX6_denialCause 22 = .ok (.ireturn, 1) := by decide +kernel
set_option maxRecDepth 20000 in
theorem ggX6_undo_X2_takeLatestInto : GoodIn wsX6_undo wsX2_takeLatestInto := goodIn_r _ [9, 10, 11, 12, 13, 8, 14, 15, 16, 17, 18, 19, 20, 21, 22, 23, 24, 25, 26, 27, 28, 29, 30, 31, 32, 33, 34, 35, 36, 37, 38, 39, 40, 41, 42, 43, 44, 45, 46, 47, 48, 49, 50, 51, 64, 65, 66, 67, 68, 69, 70, 71, 72, 73, 74, 75, 76, 77, 78, 79] (by decide +kernel) (by decide +kernel)
set_option maxRecDepth 20000 in
theorem gX6_undo_X2_takeLatestInto : GoodIn wsX6_undo (wsV RX6 294 RX2 yX2_takeLatestInto wsX2_takeLatestInto) := goodIn_app (goodIn_of _ (by decide +kernel)) ggX6_undo_X2_takeLatestInto
theorem dX6_undo_0 : decode cX6_undo 0 = .ok (.aload_n 0, 1) := by decide +kernel
theorem dX6_undo_1 : decode cX6_undo 1 = .ok (.getfield 28, 3) := by decide +kernel
theorem dX6_undo_4 : decode cX6_undo 4 = .ok (.getfield 289, 3) := by decide +kernel
theorem dX6_undo_7 : decode cX6_undo 7 = .ok (.ifCond .gt 14, 3) := by decide +kernel
theorem dX6_undo_10 : decode cX6_undo 10 = .ok (.new 213, 3) := by decide +kernel
theorem dX6_undo_13 : decode cX6_undo 13 = .ok (.dup, 1) := by decide +kernel
theorem dX6_undo_14 : decode cX6_undo 14 = .ok (.ldc_w 292, 3) := by decide +kernel
theorem dX6_undo_17 : decode cX6_undo 17 = .ok (.invokespecial 217, 3) := by decide +kernel
theorem dX6_undo_20 : decode cX6_undo 20 = .ok (.athrow, 1) := by decide +kernel
theorem dX6_undo_21 : decode cX6_undo 21 = .ok (.aload_n 0, 1) := by decide +kernel
theorem dX6_undo_22 : decode cX6_undo 22 = .ok (.getfield 28, 3) := by decide +kernel
theorem dX6_undo_25 : decode cX6_undo 25 = .ok (.aload_n 0, 1) := by decide +kernel
theorem dX6_undo_26 : decode cX6_undo 26 = .ok (.getfield 10, 3) := by decide +kernel
theorem dX6_undo_29 : decode cX6_undo 29 = .ok (.invokevirtual 294, 3) := by decide +kernel
theorem dX6_undo_32 : decode cX6_undo 32 = .ok (.ireturn, 1) := by decide +kernel
theorem dX6_undoCount_0 : decode cX6_undoCount 0 = .ok (.aload_n 0, 1) := by decide +kernel
theorem dX6_undoCount_1 : decode cX6_undoCount 1 = .ok (.getfield 28, 3) := by decide +kernel
theorem dX6_undoCount_4 : decode cX6_undoCount 4 = .ok (.getfield 289, 3) := by decide +kernel
theorem dX6_undoCount_7 : decode cX6_undoCount 7 = .ok (.ireturn, 1) := by decide +kernel
set_option maxRecDepth 20000 in
theorem ggX6_saveSnapshot_X5_copyFrom : GoodIn wsX6_saveSnapshot wsX5_copyFrom := goodIn_r _ [8, 9, 10, 11, 12, 13, 14, 15, 16, 17, 18, 19, 20, 21, 22, 23, 24, 25, 26, 27, 28, 29, 30, 31, 32, 33, 34, 47, 48, 49, 50, 51, 52, 53, 54, 55, 56, 57, 58, 59] (by decide +kernel) (by decide +kernel)
set_option maxRecDepth 20000 in
theorem gX6_saveSnapshot_X5_copyFrom : GoodIn wsX6_saveSnapshot (wsV RX6 180 RX5 yX5_copyFrom wsX5_copyFrom) := goodIn_app (goodIn_of _ (by decide +kernel)) ggX6_saveSnapshot_X5_copyFrom
theorem dX6_saveSnapshot_0 : decode cX6_saveSnapshot 0 = .ok (.aload_n 0, 1) := by decide +kernel
theorem dX6_saveSnapshot_1 : decode cX6_saveSnapshot 1 = .ok (.getfield 22, 3) := by decide +kernel
theorem dX6_saveSnapshot_4 : decode cX6_saveSnapshot 4 = .ok (.aload_n 0, 1) := by decide +kernel
theorem dX6_saveSnapshot_5 : decode cX6_saveSnapshot 5 = .ok (.getfield 10, 3) := by decide +kernel
theorem dX6_saveSnapshot_8 : decode cX6_saveSnapshot 8 = .ok (.invokevirtual 180, 3) := by decide +kernel
theorem dX6_saveSnapshot_11 : decode cX6_saveSnapshot 11 = .ok (.aload_n 0, 1) := by decide +kernel
theorem dX6_saveSnapshot_12 : decode cX6_saveSnapshot 12 = .ok (.iconst 1, 1) := by decide +kernel
theorem dX6_saveSnapshot_13 : decode cX6_saveSnapshot 13 = .ok (.putfield 298, 3) := by decide +kernel
theorem dX6_saveSnapshot_16 : decode cX6_saveSnapshot 16 = .ok (.aload_n 0, 1) := by decide +kernel
theorem dX6_saveSnapshot_17 : decode cX6_saveSnapshot 17 = .ok (.getfield 10, 3) := by decide +kernel
theorem dX6_saveSnapshot_20 : decode cX6_saveSnapshot 20 = .ok (.getfield 74, 3) := by decide +kernel
theorem dX6_saveSnapshot_23 : decode cX6_saveSnapshot 23 = .ok (.ireturn, 1) := by decide +kernel
set_option maxRecDepth 20000 in
theorem ggX6_restoreSnapshot_X5_copyFrom : GoodIn wsX6_restoreSnapshot wsX5_copyFrom := goodIn_r _ [11, 12, 13, 14, 15, 16, 17, 18, 19, 20, 21, 22, 23, 24, 25, 26, 27, 28, 29, 30, 31, 32, 33, 34, 35, 36, 37, 56, 57, 58, 59, 60, 61, 62, 63, 64, 65, 66, 67, 68] (by decide +kernel) (by decide +kernel)
set_option maxRecDepth 20000 in
theorem gX6_restoreSnapshot_X5_copyFrom : GoodIn wsX6_restoreSnapshot (wsV RX6 180 RX5 yX5_copyFrom wsX5_copyFrom) := goodIn_app (goodIn_of _ (by decide +kernel)) ggX6_restoreSnapshot_X5_copyFrom
set_option maxRecDepth 20000 in
theorem ggX6_restoreSnapshot_X2_forgetAll : GoodIn wsX6_restoreSnapshot wsX2_forgetAll := goodIn_r _ [42, 43, 69, 70, 71] (by decide +kernel) (by decide +kernel)
set_option maxRecDepth 20000 in
theorem gX6_restoreSnapshot_X2_forgetAll : GoodIn wsX6_restoreSnapshot (wsV RX6 304 RX2 yX2_forgetAll wsX2_forgetAll) := goodIn_app (goodIn_of _ (by decide +kernel)) ggX6_restoreSnapshot_X2_forgetAll
theorem dX6_restoreSnapshot_0 : decode cX6_restoreSnapshot 0 = .ok (.aload_n 0, 1) := by decide +kernel
theorem dX6_restoreSnapshot_1 : decode cX6_restoreSnapshot 1 = .ok (.getfield 298, 3) := by decide +kernel
theorem dX6_restoreSnapshot_4 : decode cX6_restoreSnapshot 4 = .ok (.ifCond .ne 14, 3) := by decide +kernel
theorem dX6_restoreSnapshot_7 : decode cX6_restoreSnapshot 7 = .ok (.new 213, 3) := by decide +kernel
theorem dX6_restoreSnapshot_10 : decode cX6_restoreSnapshot 10 = .ok (.dup, 1) := by decide +kernel
theorem dX6_restoreSnapshot_11 : decode cX6_restoreSnapshot 11 = .ok (.ldc_w 302, 3) := by decide +kernel
theorem dX6_restoreSnapshot_14 : decode cX6_restoreSnapshot 14 = .ok (.invokespecial 217, 3) := by decide +kernel
theorem dX6_restoreSnapshot_17 : decode cX6_restoreSnapshot 17 = .ok (.athrow, 1) := by decide +kernel
theorem dX6_restoreSnapshot_18 : decode cX6_restoreSnapshot 18 = .ok (.aload_n 0, 1) := by decide +kernel
theorem dX6_restoreSnapshot_19 : decode cX6_restoreSnapshot 19 = .ok (.getfield 10, 3) := by decide +kernel
theorem dX6_restoreSnapshot_22 : decode cX6_restoreSnapshot 22 = .ok (.aload_n 0, 1) := by decide +kernel
theorem dX6_restoreSnapshot_23 : decode cX6_restoreSnapshot 23 = .ok (.getfield 22, 3) := by decide +kernel
theorem dX6_restoreSnapshot_26 : decode cX6_restoreSnapshot 26 = .ok (.invokevirtual 180, 3) := by decide +kernel
theorem dX6_restoreSnapshot_29 : decode cX6_restoreSnapshot 29 = .ok (.aload_n 0, 1) := by decide +kernel
theorem dX6_restoreSnapshot_30 : decode cX6_restoreSnapshot 30 = .ok (.getfield 28, 3) := by decide +kernel
theorem dX6_restoreSnapshot_33 : decode cX6_restoreSnapshot 33 = .ok (.invokevirtual 304, 3) := by decide +kernel
theorem dX6_restoreSnapshot_36 : decode cX6_restoreSnapshot 36 = .ok (.aload_n 0, 1) := by decide +kernel
theorem dX6_restoreSnapshot_37 : decode cX6_restoreSnapshot 37 = .ok (.getfield 10, 3) := by decide +kernel
theorem dX6_restoreSnapshot_40 : decode cX6_restoreSnapshot 40 = .ok (.getfield 74, 3) := by decide +kernel
theorem dX6_restoreSnapshot_43 : decode cX6_restoreSnapshot 43 = .ok (.ireturn, 1) := by decide +kernel
set_option maxRecDepth 20000 in
theorem ggX6_requireScarecrow_X5_hasScarecrow : GoodIn wsX6_requireScarecrow wsX5_hasScarecrow := goodIn_r _ [8, 9, 22, 23, 24, 25, 26, 27, 28, 29, 30, 31, 32, 33] (by decide +kernel) (by decide +kernel)
set_option maxRecDepth 20000 in
theorem gX6_requireScarecrow_X5_hasScarecrow : GoodIn wsX6_requireScarecrow (wsV RX6 307 RX5 yX5_hasScarecrow wsX5_hasScarecrow) := goodIn_app (goodIn_of _ (by decide +kernel)) ggX6_requireScarecrow_X5_hasScarecrow
theorem dX6_requireScarecrow_0 : decode cX6_requireScarecrow 0 = .ok (.aload_n 0, 1) := by decide +kernel
theorem dX6_requireScarecrow_1 : decode cX6_requireScarecrow 1 = .ok (.getfield 10, 3) := by decide +kernel
theorem dX6_requireScarecrow_4 : decode cX6_requireScarecrow 4 = .ok (.iload_n 1, 1) := by decide +kernel
theorem dX6_requireScarecrow_5 : decode cX6_requireScarecrow 5 = .ok (.invokevirtual 307, 3) := by decide +kernel
theorem dX6_requireScarecrow_8 : decode cX6_requireScarecrow 8 = .ok (.ifCond .ne 14, 3) := by decide +kernel
theorem dX6_requireScarecrow_11 : decode cX6_requireScarecrow 11 = .ok (.new 272, 3) := by decide +kernel
theorem dX6_requireScarecrow_14 : decode cX6_requireScarecrow 14 = .ok (.dup, 1) := by decide +kernel
theorem dX6_requireScarecrow_15 : decode cX6_requireScarecrow 15 = .ok (.ldc_w 310, 3) := by decide +kernel
theorem dX6_requireScarecrow_18 : decode cX6_requireScarecrow 18 = .ok (.invokespecial 276, 3) := by decide +kernel
theorem dX6_requireScarecrow_21 : decode cX6_requireScarecrow 21 = .ok (.athrow, 1) := by decide +kernel
theorem dX6_requireScarecrow_22 : decode cX6_requireScarecrow 22 = .ok (.return_, 1) := by decide +kernel
set_option maxRecDepth 20000 in
theorem ggX6_requireCertificate_X5_hasCertificate : GoodIn wsX6_requireCertificate wsX5_hasCertificate := goodIn_r _ [8, 9, 22, 23, 24, 25, 26, 27, 28, 29, 30, 31, 32, 33] (by decide +kernel) (by decide +kernel)
set_option maxRecDepth 20000 in
theorem gX6_requireCertificate_X5_hasCertificate : GoodIn wsX6_requireCertificate (wsV RX6 312 RX5 yX5_hasCertificate wsX5_hasCertificate) := goodIn_app (goodIn_of _ (by decide +kernel)) ggX6_requireCertificate_X5_hasCertificate
theorem dX6_requireCertificate_0 : decode cX6_requireCertificate 0 = .ok (.aload_n 0, 1) := by decide +kernel
theorem dX6_requireCertificate_1 : decode cX6_requireCertificate 1 = .ok (.getfield 10, 3) := by decide +kernel
theorem dX6_requireCertificate_4 : decode cX6_requireCertificate 4 = .ok (.iload_n 1, 1) := by decide +kernel
theorem dX6_requireCertificate_5 : decode cX6_requireCertificate 5 = .ok (.invokevirtual 312, 3) := by decide +kernel
theorem dX6_requireCertificate_8 : decode cX6_requireCertificate 8 = .ok (.ifCond .ne 14, 3) := by decide +kernel
theorem dX6_requireCertificate_11 : decode cX6_requireCertificate 11 = .ok (.new 272, 3) := by decide +kernel
theorem dX6_requireCertificate_14 : decode cX6_requireCertificate 14 = .ok (.dup, 1) := by decide +kernel
theorem dX6_requireCertificate_15 : decode cX6_requireCertificate 15 = .ok (.ldc_w 315, 3) := by decide +kernel
theorem dX6_requireCertificate_18 : decode cX6_requireCertificate 18 = .ok (.invokespecial 276, 3) := by decide +kernel
theorem dX6_requireCertificate_21 : decode cX6_requireCertificate 21 = .ok (.athrow, 1) := by decide +kernel
theorem dX6_requireCertificate_22 : decode cX6_requireCertificate 22 = .ok (.return_, 1) := by decide +kernel
set_option maxRecDepth 20000 in
theorem ggX6_requireField_X6_isField : GoodIn wsX6_requireField wsX6_isField := goodIn_r _ [6] (by decide +kernel) (by decide +kernel)
set_option maxRecDepth 20000 in
theorem gX6_requireField_X6_isField : GoodIn wsX6_requireField (va_wsS RX6 317 yX6_isField wsX6_isField) := goodIn_app (goodIn_of _ (by decide +kernel)) ggX6_requireField_X6_isField
theorem dX6_requireField_0 : decode cX6_requireField 0 = .ok (.iload_n 0, 1) := by decide +kernel
theorem dX6_requireField_1 : decode cX6_requireField 1 = .ok (.invokestatic 317, 3) := by decide +kernel
theorem dX6_requireField_4 : decode cX6_requireField 4 = .ok (.ifCond .ne 14, 3) := by decide +kernel
theorem dX6_requireField_7 : decode cX6_requireField 7 = .ok (.new 175, 3) := by decide +kernel
theorem dX6_requireField_10 : decode cX6_requireField 10 = .ok (.dup, 1) := by decide +kernel
theorem dX6_requireField_11 : decode cX6_requireField 11 = .ok (.ldc_w 320, 3) := by decide +kernel
theorem dX6_requireField_14 : decode cX6_requireField 14 = .ok (.invokespecial 179, 3) := by decide +kernel
theorem dX6_requireField_17 : decode cX6_requireField 17 = .ok (.athrow, 1) := by decide +kernel
theorem dX6_requireField_18 : decode cX6_requireField 18 = .ok (.return_, 1) := by decide +kernel
theorem dX6_requireDenial_0 : decode cX6_requireDenial 0 = .ok (.aload_n 0, 1) := by decide +kernel
theorem dX6_requireDenial_1 : decode cX6_requireDenial 1 = .ok (.getfield 50, 3) := by decide +kernel
theorem dX6_requireDenial_4 : decode cX6_requireDenial 4 = .ok (.ifCond .ne 14, 3) := by decide +kernel
theorem dX6_requireDenial_7 : decode cX6_requireDenial 7 = .ok (.new 96, 3) := by decide +kernel
theorem dX6_requireDenial_10 : decode cX6_requireDenial 10 = .ok (.dup, 1) := by decide +kernel
theorem dX6_requireDenial_11 : decode cX6_requireDenial 11 = .ok (.ldc_w 322, 3) := by decide +kernel
theorem dX6_requireDenial_14 : decode cX6_requireDenial 14 = .ok (.invokespecial 100, 3) := by decide +kernel
theorem dX6_requireDenial_17 : decode cX6_requireDenial 17 = .ok (.athrow, 1) := by decide +kernel
theorem dX6_requireDenial_18 : decode cX6_requireDenial 18 = .ok (.return_, 1) := by decide +kernel
set_option maxRecDepth 20000 in
theorem ggX6_beginChange_X5_copyFrom : GoodIn wsX6_beginChange wsX5_copyFrom := goodIn_r _ [7, 8, 9, 10, 11, 12, 13, 14, 15, 16, 17, 18, 19, 20, 21, 22, 23, 24, 25, 26, 27, 28, 29, 30, 31, 32, 33, 46, 47, 48, 49, 50, 51, 52, 53, 54, 55, 56, 57, 58] (by decide +kernel) (by decide +kernel)
set_option maxRecDepth 20000 in
theorem gX6_beginChange_X5_copyFrom : GoodIn wsX6_beginChange (wsV RX6 180 RX5 yX5_copyFrom wsX5_copyFrom) := goodIn_app (goodIn_of _ (by decide +kernel)) ggX6_beginChange_X5_copyFrom
theorem dX6_beginChange_0 : decode cX6_beginChange 0 = .ok (.aload_n 0, 1) := by decide +kernel
theorem dX6_beginChange_1 : decode cX6_beginChange 1 = .ok (.getfield 16, 3) := by decide +kernel
theorem dX6_beginChange_4 : decode cX6_beginChange 4 = .ok (.aload_n 0, 1) := by decide +kernel
theorem dX6_beginChange_5 : decode cX6_beginChange 5 = .ok (.getfield 10, 3) := by decide +kernel
theorem dX6_beginChange_8 : decode cX6_beginChange 8 = .ok (.invokevirtual 180, 3) := by decide +kernel
theorem dX6_beginChange_11 : decode cX6_beginChange 11 = .ok (.return_, 1) := by decide +kernel
set_option maxRecDepth 20000 in
theorem ggX6_endChange_X2_remember : GoodIn wsX6_endChange wsX2_remember := goodIn_r _ [13, 14, 15, 16, 17, 18, 19, 20, 21, 22, 12, 23, 24, 25, 26, 27, 28, 29, 30, 31, 32, 33, 34, 35, 36, 37, 38, 39, 40, 41, 42, 43, 44, 45, 46, 47, 48, 49, 50, 51, 52, 53, 54, 55, 68, 69, 70, 71, 72, 73, 74, 75, 76, 77, 78, 79, 80, 81, 82, 83] (by decide +kernel) (by decide +kernel)
set_option maxRecDepth 20000 in
theorem gX6_endChange_X2_remember : GoodIn wsX6_endChange (wsV RX6 252 RX2 yX2_remember wsX2_remember) := goodIn_app (goodIn_of _ (by decide +kernel)) ggX6_endChange_X2_remember
theorem dX6_endChange_0 : decode cX6_endChange 0 = .ok (.iload_n 1, 1) := by decide +kernel
theorem dX6_endChange_1 : decode cX6_endChange 1 = .ok (.iconst (-1), 1) := by decide +kernel
theorem dX6_endChange_2 : decode cX6_endChange 2 = .ok (.if_icmp .ne 14, 3) := by decide +kernel
theorem dX6_endChange_5 : decode cX6_endChange 5 = .ok (.new 272, 3) := by decide +kernel
theorem dX6_endChange_8 : decode cX6_endChange 8 = .ok (.dup, 1) := by decide +kernel
theorem dX6_endChange_9 : decode cX6_endChange 9 = .ok (.ldc_w 324, 3) := by decide +kernel
theorem dX6_endChange_12 : decode cX6_endChange 12 = .ok (.invokespecial 276, 3) := by decide +kernel
theorem dX6_endChange_15 : decode cX6_endChange 15 = .ok (.athrow, 1) := by decide +kernel
theorem dX6_endChange_16 : decode cX6_endChange 16 = .ok (.iload_n 1, 1) := by decide +kernel
theorem dX6_endChange_17 : decode cX6_endChange 17 = .ok (.bipush (-2), 2) := by decide +kernel
theorem dX6_endChange_19 : decode cX6_endChange 19 = .ok (.if_icmp .ne 14, 3) := by decide +kernel
theorem dX6_endChange_22 : decode cX6_endChange 22 = .ok (.new 175, 3) := by decide +kernel
theorem dX6_endChange_25 : decode cX6_endChange 25 = .ok (.dup, 1) := by decide +kernel
theorem dX6_endChange_26 : decode cX6_endChange 26 = .ok (.ldc_w 326, 3) := by decide +kernel
theorem dX6_endChange_29 : decode cX6_endChange 29 = .ok (.invokespecial 179, 3) := by decide +kernel
theorem dX6_endChange_32 : decode cX6_endChange 32 = .ok (.athrow, 1) := by decide +kernel
theorem dX6_endChange_33 : decode cX6_endChange 33 = .ok (.iload_n 1, 1) := by decide +kernel
theorem dX6_endChange_34 : decode cX6_endChange 34 = .ok (.bipush (-3), 2) := by decide +kernel
theorem dX6_endChange_36 : decode cX6_endChange 36 = .ok (.if_icmp .ne 14, 3) := by decide +kernel
theorem dX6_endChange_39 : decode cX6_endChange 39 = .ok (.new 247, 3) := by decide +kernel
theorem dX6_endChange_42 : decode cX6_endChange 42 = .ok (.dup, 1) := by decide +kernel
theorem dX6_endChange_43 : decode cX6_endChange 43 = .ok (.ldc_w 328, 3) := by decide +kernel
theorem dX6_endChange_46 : decode cX6_endChange 46 = .ok (.invokespecial 251, 3) := by decide +kernel
theorem dX6_endChange_49 : decode cX6_endChange 49 = .ok (.athrow, 1) := by decide +kernel
theorem dX6_endChange_50 : decode cX6_endChange 50 = .ok (.aload_n 0, 1) := by decide +kernel
theorem dX6_endChange_51 : decode cX6_endChange 51 = .ok (.getfield 28, 3) := by decide +kernel
theorem dX6_endChange_54 : decode cX6_endChange 54 = .ok (.aload_n 0, 1) := by decide +kernel
theorem dX6_endChange_55 : decode cX6_endChange 55 = .ok (.getfield 16, 3) := by decide +kernel
theorem dX6_endChange_58 : decode cX6_endChange 58 = .ok (.invokevirtual 252, 3) := by decide +kernel
theorem dX6_endChange_61 : decode cX6_endChange 61 = .ok (.iload_n 1, 1) := by decide +kernel
theorem dX6_endChange_62 : decode cX6_endChange 62 = .ok (.ireturn, 1) := by decide +kernel
theorem dX6_deny_0 : decode cX6_deny 0 = .ok (.aload_n 0, 1) := by decide +kernel
theorem dX6_deny_1 : decode cX6_deny 1 = .ok (.iload_n 1, 1) := by decide +kernel
theorem dX6_deny_2 : decode cX6_deny 2 = .ok (.putfield 50, 3) := by decide +kernel
theorem dX6_deny_5 : decode cX6_deny 5 = .ok (.aload_n 0, 1) := by decide +kernel
theorem dX6_deny_6 : decode cX6_deny 6 = .ok (.iload_n 2, 1) := by decide +kernel
theorem dX6_deny_7 : decode cX6_deny 7 = .ok (.putfield 284, 3) := by decide +kernel
theorem dX6_deny_10 : decode cX6_deny 10 = .ok (.aload_n 0, 1) := by decide +kernel
theorem dX6_deny_11 : decode cX6_deny 11 = .ok (.iconst 0, 1) := by decide +kernel
theorem dX6_deny_12 : decode cX6_deny 12 = .ok (.putfield 53, 3) := by decide +kernel
theorem dX6_deny_15 : decode cX6_deny 15 = .ok (.bipush (-3), 2) := by decide +kernel
theorem dX6_deny_17 : decode cX6_deny 17 = .ok (.ireturn, 1) := by decide +kernel
set_option maxRecDepth 20000 in
theorem ggX6_denyText_X6_deny : GoodIn wsX6_denyText wsX6_deny := goodIn_r _ [7, 1, 8, 2, 9, 10, 11, 12, 13, 14, 15, 16, 17, 18, 19, 20] (by decide +kernel) (by decide +kernel)
set_option maxRecDepth 20000 in
theorem gX6_denyText_X6_deny : GoodIn wsX6_denyText (wsV RX6 330 RX6 yX6_deny wsX6_deny) := goodIn_app (goodIn_of _ (by decide +kernel)) ggX6_denyText_X6_deny
theorem dX6_denyText_0 : decode cX6_denyText 0 = .ok (.iload_n 2, 1) := by decide +kernel
theorem dX6_denyText_1 : decode cX6_denyText 1 = .ok (.bipush (-3), 2) := by decide +kernel
theorem dX6_denyText_3 : decode cX6_denyText 3 = .ok (.if_icmp .ne 10, 3) := by decide +kernel
theorem dX6_denyText_6 : decode cX6_denyText 6 = .ok (.aload_n 0, 1) := by decide +kernel
theorem dX6_denyText_7 : decode cX6_denyText 7 = .ok (.getfield 50, 3) := by decide +kernel
theorem dX6_denyText_10 : decode cX6_denyText 10 = .ok (.goto 5, 3) := by decide +kernel
theorem dX6_denyText_13 : decode cX6_denyText 13 = .ok (.bipush 7, 2) := by decide +kernel
theorem dX6_denyText_15 : decode cX6_denyText 15 = .ok (.istore_n 3, 1) := by decide +kernel
theorem dX6_denyText_16 : decode cX6_denyText 16 = .ok (.aload_n 0, 1) := by decide +kernel
theorem dX6_denyText_17 : decode cX6_denyText 17 = .ok (.bipush 6, 2) := by decide +kernel
theorem dX6_denyText_19 : decode cX6_denyText 19 = .ok (.iload_n 1, 1) := by decide +kernel
theorem dX6_denyText_20 : decode cX6_denyText 20 = .ok (.invokevirtual 330, 3) := by decide +kernel
theorem dX6_denyText_23 : decode cX6_denyText 23 = .ok (.pop, 1) := by decide +kernel
theorem dX6_denyText_24 : decode cX6_denyText 24 = .ok (.aload_n 0, 1) := by decide +kernel
theorem dX6_denyText_25 : decode cX6_denyText 25 = .ok (.iload_n 3, 1) := by decide +kernel
theorem dX6_denyText_26 : decode cX6_denyText 26 = .ok (.putfield 53, 3) := by decide +kernel
theorem dX6_denyText_29 : decode cX6_denyText 29 = .ok (.return_, 1) := by decide +kernel
set_option maxRecDepth 20000 in
theorem ggX6_runCommand_X4_get : GoodIn wsX6_runCommand wsX4_get := goodIn_ca (goodIn_r _ [7, 8, 177] (by decide +kernel) (by decide +kernel)) (goodIn_sub (fun _ h => List.mem_cons_of_mem _ (List.mem_append_right _ h)) (by decide +kernel))
set_option maxRecDepth 20000 in
theorem gX6_runCommand_X4_get : GoodIn wsX6_runCommand (wsV RX6 85 RX4 yX4_get wsX4_get) := goodIn_app (goodIn_of _ (by decide +kernel)) ggX6_runCommand_X4_get
set_option maxRecDepth 20000 in
theorem ggX6_runCommand_Jx29ce0_ordinal_8abf5 : GoodIn wsX6_runCommand wsJx29ce0_ordinal_8abf5 := goodIn_r _ [14, 15] (by decide +kernel) (by decide +kernel)
set_option maxRecDepth 20000 in
theorem gX6_runCommand_Jx29ce0_ordinal_8abf5_u346X3 : GoodIn wsX6_runCommand (va_wsU RX6 346 RX3 "java/lang/Enum" ⟨"ScarecrowRegistry$Kind", "ordinal", "()I"⟩ yJx29ce0_ordinal_8abf5 wsJx29ce0_ordinal_8abf5) := goodIn_app (goodIn_of _ (by decide +kernel)) ggX6_runCommand_Jx29ce0_ordinal_8abf5
set_option maxRecDepth 20000 in
theorem ggX6_runCommand_X6_putScarecrow : GoodIn wsX6_runCommand wsX6_putScarecrow := goodIn_ca (goodIn_r _ [20, 21, 22, 23, 19, 24, 25, 26, 27, 28, 29, 30, 31, 32, 33, 34, 35, 36, 37, 38, 39, 4, 5, 6, 7, 8, 40, 41, 42, 43, 44, 45, 46, 47, 160, 161, 162, 163, 164, 165, 166, 167, 168, 169, 170, 171, 178, 179, 180, 181, 182, 183, 184, 185, 186, 187, 188, 189, 177] (by decide +kernel) (by decide +kernel)) (goodIn_sub (fun _ h => List.mem_cons_of_mem _ (List.mem_append_right _ h)) (by decide +kernel))
set_option maxRecDepth 20000 in
theorem gX6_runCommand_X6_putScarecrow : GoodIn wsX6_runCommand (wsV RX6 59 RX6 yX6_putScarecrow wsX6_putScarecrow) := goodIn_app (goodIn_of _ (by decide +kernel)) ggX6_runCommand_X6_putScarecrow
set_option maxRecDepth 20000 in
theorem ggX6_runCommand_X6_moveScarecrow : GoodIn wsX6_runCommand wsX6_moveScarecrow := goodIn_ca (goodIn_r _ [51, 21, 52, 53, 54, 35, 55, 37, 22, 23, 19, 24, 32, 33, 34, 36, 38, 39, 4, 5, 6, 7, 8, 25, 26, 27, 28, 29, 30, 31, 3, 56, 45, 46, 47, 160, 161, 162, 163, 164, 165, 166, 167, 168, 169, 170, 171, 178, 179, 180, 181, 182, 183, 184, 185, 186, 187, 188, 189, 177] (by decide +kernel) (by decide +kernel)) (goodIn_sub (fun _ h => List.mem_cons_of_mem _ (List.mem_append_right _ h)) (by decide +kernel))
set_option maxRecDepth 20000 in
theorem gX6_runCommand_X6_moveScarecrow : GoodIn wsX6_runCommand (wsV RX6 66 RX6 yX6_moveScarecrow wsX6_moveScarecrow) := goodIn_app (goodIn_of _ (by decide +kernel)) ggX6_runCommand_X6_moveScarecrow
set_option maxRecDepth 20000 in
theorem ggX6_runCommand_X6_revokeOrRestore : GoodIn wsX6_runCommand wsX6_revokeOrRestore := goodIn_ca (goodIn_r _ [60, 21, 52, 53, 54, 35, 55, 37, 61, 62, 19, 63, 25, 26, 27, 28, 29, 30, 31, 64, 65, 66, 67, 68, 69, 70, 71, 72, 73, 74, 75, 76, 77, 78, 79, 38, 80, 81, 82, 39, 4, 5, 6, 7, 8, 83, 84, 85, 86, 87, 88, 89, 90, 91, 92, 93, 160, 161, 162, 163, 164, 165, 166, 167, 168, 169, 170, 171, 178, 179, 180, 181, 182, 183, 184, 185, 186, 187, 188, 189, 177] (by decide +kernel) (by decide +kernel)) (goodIn_sub (fun _ h => List.mem_cons_of_mem _ (List.mem_append_right _ h)) (by decide +kernel))
set_option maxRecDepth 20000 in
theorem gX6_runCommand_X6_revokeOrRestore : GoodIn wsX6_runCommand (wsV RX6 70 RX6 yX6_revokeOrRestore wsX6_revokeOrRestore) := goodIn_app (goodIn_of _ (by decide +kernel)) ggX6_runCommand_X6_revokeOrRestore
set_option maxRecDepth 20000 in
theorem ggX6_runCommand_X6_certifyByRegistry : GoodIn wsX6_runCommand wsX6_certifyByRegistry := goodIn_ca (goodIn_r _ [97, 21, 52, 53, 54, 35, 55, 37, 98, 99, 19, 100, 25, 26, 27, 28, 29, 30, 31, 101, 102, 103, 104, 78, 79, 80, 81, 38, 82, 68, 44, 45, 46, 6, 47, 8, 39, 4, 5, 7, 160, 161, 162, 163, 164, 165, 166, 167, 168, 169, 170, 171, 178, 179, 180, 181, 182, 183, 184, 185, 186, 187, 188, 189, 177] (by decide +kernel) (by decide +kernel)) (goodIn_sub (fun _ h => List.mem_cons_of_mem _ (List.mem_append_right _ h)) (by decide +kernel))
set_option maxRecDepth 20000 in
theorem gX6_runCommand_X6_certifyByRegistry : GoodIn wsX6_runCommand (wsV RX6 134 RX6 yX6_certifyByRegistry wsX6_certifyByRegistry) := goodIn_app (goodIn_of _ (by decide +kernel)) ggX6_runCommand_X6_certifyByRegistry
set_option maxRecDepth 20000 in
theorem ggX6_runCommand_X6_certifyByScarecrow : GoodIn wsX6_runCommand wsX6_certifyByScarecrow := goodIn_ca (goodIn_r _ [108, 21, 52, 53, 54, 35, 55, 37, 98, 99, 19, 100, 25, 26, 27, 28, 29, 30, 31, 64, 65, 66, 67, 68, 69, 70, 71, 72, 73, 74, 75, 76, 77, 78, 79, 38, 80, 81, 82, 39, 4, 5, 6, 7, 8, 62, 63, 83, 84, 85, 86, 61, 101, 102, 103, 104, 44, 45, 46, 47, 160, 161, 162, 163, 164, 165, 166, 167, 168, 169, 170, 171, 178, 179, 180, 181, 182, 183, 184, 185, 186, 187, 188, 189, 177] (by decide +kernel) (by decide +kernel)) (goodIn_sub (fun _ h => List.mem_cons_of_mem _ (List.mem_append_right _ h)) (by decide +kernel))
set_option maxRecDepth 20000 in
theorem gX6_runCommand_X6_certifyByScarecrow : GoodIn wsX6_runCommand (wsV RX6 137 RX6 yX6_certifyByScarecrow wsX6_certifyByScarecrow) := goodIn_app (goodIn_of _ (by decide +kernel)) ggX6_runCommand_X6_certifyByScarecrow
set_option maxRecDepth 20000 in
theorem ggX6_runCommand_X6_dropCertificate : GoodIn wsX6_runCommand wsX6_dropCertificate := goodIn_ca (goodIn_r _ [112, 21, 113, 114, 115, 35, 116, 78, 3, 4, 5, 6, 7, 8, 117, 118, 119, 120, 79, 80, 81, 82, 121, 122, 123, 124, 160, 161, 162, 163, 164, 165, 166, 167, 168, 169, 170, 171, 178, 179, 180, 181, 182, 183, 184, 185, 186, 187, 188, 189, 177] (by decide +kernel) (by decide +kernel)) (goodIn_sub (fun _ h => List.mem_cons_of_mem _ (List.mem_append_right _ h)) (by decide +kernel))
set_option maxRecDepth 20000 in
theorem gX6_runCommand_X6_dropCertificate : GoodIn wsX6_runCommand (wsV RX6 141 RX6 yX6_dropCertificate wsX6_dropCertificate) := goodIn_app (goodIn_of _ (by decide +kernel)) ggX6_runCommand_X6_dropCertificate
set_option maxRecDepth 20000 in
theorem ggX6_runCommand_X6_putGrains : GoodIn wsX6_runCommand wsX6_putGrains := goodIn_ca (goodIn_r _ [128, 21, 22, 23, 19, 24, 3, 4, 5, 6, 7, 8, 25, 26, 27, 28, 29, 30, 31, 56, 45, 46, 47, 160, 161, 162, 163, 164, 165, 166, 167, 168, 169, 170, 171, 178, 179, 180, 181, 182, 183, 184, 185, 186, 187, 188, 189, 177] (by decide +kernel) (by decide +kernel)) (goodIn_sub (fun _ h => List.mem_cons_of_mem _ (List.mem_append_right _ h)) (by decide +kernel))
set_option maxRecDepth 20000 in
theorem gX6_runCommand_X6_putGrains : GoodIn wsX6_runCommand (wsV RX6 169 RX6 yX6_putGrains wsX6_putGrains) := goodIn_app (goodIn_of _ (by decide +kernel)) ggX6_runCommand_X6_putGrains
set_option maxRecDepth 20000 in
theorem ggX6_runCommand_X6_passDays : GoodIn wsX6_runCommand wsX6_passDays := goodIn_ca (goodIn_r _ [132, 21, 133, 134, 135, 35, 136, 68, 137, 138, 139, 140, 141, 142, 78, 82, 39, 4, 5, 6, 7, 8, 143, 118, 119, 120, 79, 80, 81, 121, 122, 123, 124, 144, 19, 145, 146, 147, 148, 149, 69, 70, 71, 72, 73, 74, 75, 76, 77, 38, 62, 63, 83, 84, 85, 86, 150, 151, 152, 153, 37, 154, 155, 156, 157, 158, 159, 44, 45, 46, 47, 160, 161, 162, 163, 164, 165, 166, 167, 168, 169, 170, 171, 178, 179, 180, 181, 182, 183, 184, 185, 186, 187, 188, 189, 177] (by decide +kernel) (by decide +kernel)) (goodIn_sub (fun _ h => List.mem_cons_of_mem _ (List.mem_append_right _ h)) (by decide +kernel))
set_option maxRecDepth 20000 in
theorem gX6_runCommand_X6_passDays : GoodIn wsX6_runCommand (wsV RX6 172 RX6 yX6_passDays wsX6_passDays) := goodIn_app (goodIn_of _ (by decide +kernel)) ggX6_runCommand_X6_passDays
theorem dX6_runCommand_0 : decode cX6_runCommand 0 = .ok (.aload_n 0, 1) := by decide +kernel
theorem dX6_runCommand_1 : decode cX6_runCommand 1 = .ok (.getfield 35, 3) := by decide +kernel
theorem dX6_runCommand_4 : decode cX6_runCommand 4 = .ok (.getfield 333, 3) := by decide +kernel
theorem dX6_runCommand_7 : decode cX6_runCommand 7 = .ok (.iconst 0, 1) := by decide +kernel
theorem dX6_runCommand_8 : decode cX6_runCommand 8 = .ok (.invokevirtual 85, 3) := by decide +kernel
theorem dX6_runCommand_11 : decode cX6_runCommand 11 = .ok (.istore_n 1, 1) := by decide +kernel
theorem dX6_runCommand_12 : decode cX6_runCommand 12 = .ok (.aload_n 0, 1) := by decide +kernel
theorem dX6_runCommand_13 : decode cX6_runCommand 13 = .ok (.getfield 35, 3) := by decide +kernel
theorem dX6_runCommand_16 : decode cX6_runCommand 16 = .ok (.getfield 333, 3) := by decide +kernel
theorem dX6_runCommand_19 : decode cX6_runCommand 19 = .ok (.iconst 1, 1) := by decide +kernel
theorem dX6_runCommand_20 : decode cX6_runCommand 20 = .ok (.invokevirtual 85, 3) := by decide +kernel
theorem dX6_runCommand_23 : decode cX6_runCommand 23 = .ok (.istore_n 2, 1) := by decide +kernel
theorem dX6_runCommand_24 : decode cX6_runCommand 24 = .ok (.aload_n 0, 1) := by decide +kernel
theorem dX6_runCommand_25 : decode cX6_runCommand 25 = .ok (.getfield 35, 3) := by decide +kernel
theorem dX6_runCommand_28 : decode cX6_runCommand 28 = .ok (.getfield 333, 3) := by decide +kernel
theorem dX6_runCommand_31 : decode cX6_runCommand 31 = .ok (.iconst 2, 1) := by decide +kernel
theorem dX6_runCommand_32 : decode cX6_runCommand 32 = .ok (.invokevirtual 85, 3) := by decide +kernel
theorem dX6_runCommand_35 : decode cX6_runCommand 35 = .ok (.istore_n 3, 1) := by decide +kernel
theorem dX6_runCommand_36 : decode cX6_runCommand 36 = .ok (.getstatic 336, 3) := by decide +kernel
theorem dX6_runCommand_39 : decode cX6_runCommand 39 = .ok (.aload_n 0, 1) := by decide +kernel
theorem dX6_runCommand_40 : decode cX6_runCommand 40 = .ok (.getfield 35, 3) := by decide +kernel
theorem dX6_runCommand_43 : decode cX6_runCommand 43 = .ok (.getfield 342, 3) := by decide +kernel
theorem dX6_runCommand_46 : decode cX6_runCommand 46 = .ok (.invokevirtual 346, 3) := by decide +kernel
theorem dX6_runCommand_49 : decode cX6_runCommand 49 = .ok (.iaload, 1) := by decide +kernel
theorem dX6_runCommand_50 : decode cX6_runCommand 50 = .ok (.tableswitch 111 1 9 #[50, 56, 63, 70, 77, 84, 92, 98, 105], 50) := by decide +kernel
theorem dX6_runCommand_100 : decode cX6_runCommand 100 = .ok (.aload_n 0, 1) := by decide +kernel
theorem dX6_runCommand_101 : decode cX6_runCommand 101 = .ok (.iload_n 1, 1) := by decide +kernel
theorem dX6_runCommand_102 : decode cX6_runCommand 102 = .ok (.invokevirtual 59, 3) := by decide +kernel
theorem dX6_runCommand_105 : decode cX6_runCommand 105 = .ok (.ireturn, 1) := by decide +kernel
theorem dX6_runCommand_106 : decode cX6_runCommand 106 = .ok (.aload_n 0, 1) := by decide +kernel
theorem dX6_runCommand_107 : decode cX6_runCommand 107 = .ok (.iload_n 1, 1) := by decide +kernel
theorem dX6_runCommand_108 : decode cX6_runCommand 108 = .ok (.iload_n 2, 1) := by decide +kernel
theorem dX6_runCommand_109 : decode cX6_runCommand 109 = .ok (.invokevirtual 66, 3) := by decide +kernel
theorem dX6_runCommand_112 : decode cX6_runCommand 112 = .ok (.ireturn, 1) := by decide +kernel
theorem dX6_runCommand_113 : decode cX6_runCommand 113 = .ok (.aload_n 0, 1) := by decide +kernel
theorem dX6_runCommand_114 : decode cX6_runCommand 114 = .ok (.iload_n 1, 1) := by decide +kernel
theorem dX6_runCommand_115 : decode cX6_runCommand 115 = .ok (.iconst 1, 1) := by decide +kernel
theorem dX6_runCommand_116 : decode cX6_runCommand 116 = .ok (.invokevirtual 70, 3) := by decide +kernel
theorem dX6_runCommand_119 : decode cX6_runCommand 119 = .ok (.ireturn, 1) := by decide +kernel
theorem dX6_runCommand_120 : decode cX6_runCommand 120 = .ok (.aload_n 0, 1) := by decide +kernel
theorem dX6_runCommand_121 : decode cX6_runCommand 121 = .ok (.iload_n 1, 1) := by decide +kernel
theorem dX6_runCommand_122 : decode cX6_runCommand 122 = .ok (.iconst 0, 1) := by decide +kernel
theorem dX6_runCommand_123 : decode cX6_runCommand 123 = .ok (.invokevirtual 70, 3) := by decide +kernel
theorem dX6_runCommand_126 : decode cX6_runCommand 126 = .ok (.ireturn, 1) := by decide +kernel
theorem dX6_runCommand_127 : decode cX6_runCommand 127 = .ok (.aload_n 0, 1) := by decide +kernel
theorem dX6_runCommand_128 : decode cX6_runCommand 128 = .ok (.iload_n 1, 1) := by decide +kernel
theorem dX6_runCommand_129 : decode cX6_runCommand 129 = .ok (.iload_n 2, 1) := by decide +kernel
theorem dX6_runCommand_130 : decode cX6_runCommand 130 = .ok (.invokevirtual 134, 3) := by decide +kernel
theorem dX6_runCommand_133 : decode cX6_runCommand 133 = .ok (.ireturn, 1) := by decide +kernel
theorem dX6_runCommand_134 : decode cX6_runCommand 134 = .ok (.aload_n 0, 1) := by decide +kernel
theorem dX6_runCommand_135 : decode cX6_runCommand 135 = .ok (.iload_n 1, 1) := by decide +kernel
theorem dX6_runCommand_136 : decode cX6_runCommand 136 = .ok (.iload_n 2, 1) := by decide +kernel
theorem dX6_runCommand_137 : decode cX6_runCommand 137 = .ok (.iload_n 3, 1) := by decide +kernel
theorem dX6_runCommand_138 : decode cX6_runCommand 138 = .ok (.invokevirtual 137, 3) := by decide +kernel
theorem dX6_runCommand_141 : decode cX6_runCommand 141 = .ok (.ireturn, 1) := by decide +kernel
theorem dX6_runCommand_142 : decode cX6_runCommand 142 = .ok (.aload_n 0, 1) := by decide +kernel
theorem dX6_runCommand_143 : decode cX6_runCommand 143 = .ok (.iload_n 1, 1) := by decide +kernel
theorem dX6_runCommand_144 : decode cX6_runCommand 144 = .ok (.invokevirtual 141, 3) := by decide +kernel
theorem dX6_runCommand_147 : decode cX6_runCommand 147 = .ok (.ireturn, 1) := by decide +kernel
theorem dX6_runCommand_148 : decode cX6_runCommand 148 = .ok (.aload_n 0, 1) := by decide +kernel
theorem dX6_runCommand_149 : decode cX6_runCommand 149 = .ok (.iload_n 1, 1) := by decide +kernel
theorem dX6_runCommand_150 : decode cX6_runCommand 150 = .ok (.iload_n 2, 1) := by decide +kernel
theorem dX6_runCommand_151 : decode cX6_runCommand 151 = .ok (.invokevirtual 169, 3) := by decide +kernel
theorem dX6_runCommand_154 : decode cX6_runCommand 154 = .ok (.ireturn, 1) := by decide +kernel
theorem dX6_runCommand_155 : decode cX6_runCommand 155 = .ok (.aload_n 0, 1) := by decide +kernel
theorem dX6_runCommand_156 : decode cX6_runCommand 156 = .ok (.iload_n 1, 1) := by decide +kernel
theorem dX6_runCommand_157 : decode cX6_runCommand 157 = .ok (.invokevirtual 172, 3) := by decide +kernel
theorem dX6_runCommand_160 : decode cX6_runCommand 160 = .ok (.ireturn, 1) := by decide +kernel
theorem dX6_runCommand_161 : decode cX6_runCommand 161 = .ok (.bipush (-2), 2) := by decide +kernel
theorem dX6_runCommand_163 : decode cX6_runCommand 163 = .ok (.ireturn, 1) := by decide +kernel
set_option maxRecDepth 20000 in
theorem ggX6_putScarecrow_X6_isField : GoodIn wsX6_putScarecrow wsX6_isField := goodIn_r _ [5] (by decide +kernel) (by decide +kernel)
set_option maxRecDepth 20000 in
theorem gX6_putScarecrow_X6_isField : GoodIn wsX6_putScarecrow (va_wsS RX6 317 yX6_isField wsX6_isField) := goodIn_app (goodIn_of _ (by decide +kernel)) ggX6_putScarecrow_X6_isField
set_option maxRecDepth 20000 in
theorem ggX6_putScarecrow_X6_deny : GoodIn wsX6_putScarecrow wsX6_deny := goodIn_r _ [9, 10, 11, 12, 34, 35, 36, 37, 38, 39, 40, 41, 42, 43, 44, 45] (by decide +kernel) (by decide +kernel)
set_option maxRecDepth 20000 in
theorem gX6_putScarecrow_X6_deny : GoodIn wsX6_putScarecrow (wsV RX6 330 RX6 yX6_deny wsX6_deny) := goodIn_app (goodIn_of _ (by decide +kernel)) ggX6_putScarecrow_X6_deny
set_option maxRecDepth 20000 in
theorem ggX6_putScarecrow_X5_scarecrowAt : GoodIn wsX6_putScarecrow wsX5_scarecrowAt := goodIn_ca (goodIn_r _ [17, 18, 19, 20, 21, 22, 23, 24, 25, 46, 47, 48, 49, 50, 51, 52, 53, 54, 55, 56, 57, 58] (by decide +kernel) (by decide +kernel)) (goodIn_sub (fun _ h => List.mem_cons_of_mem _ (List.mem_append_right _ h)) (by decide +kernel))
set_option maxRecDepth 20000 in
theorem gX6_putScarecrow_X5_scarecrowAt : GoodIn wsX6_putScarecrow (wsV RX6 93 RX5 yX5_scarecrowAt wsX5_scarecrowAt) := goodIn_app (goodIn_of _ (by decide +kernel)) ggX6_putScarecrow_X5_scarecrowAt
set_option maxRecDepth 20000 in
theorem ggX6_putScarecrow_X5_addScarecrow : GoodIn wsX6_putScarecrow wsX5_addScarecrow := goodIn_ca (goodIn_r _ [29, 18, 19, 30, 31, 32, 23, 33, 25, 46, 47, 48, 49, 50, 51, 52, 53, 54, 55, 56, 57, 58] (by decide +kernel) (by decide +kernel)) (goodIn_sub (fun _ h => List.mem_cons_of_mem _ (List.mem_append_right _ h)) (by decide +kernel))
set_option maxRecDepth 20000 in
theorem gX6_putScarecrow_X5_addScarecrow : GoodIn wsX6_putScarecrow (wsV RX6 351 RX5 yX5_addScarecrow wsX5_addScarecrow) := goodIn_app (goodIn_of _ (by decide +kernel)) ggX6_putScarecrow_X5_addScarecrow
theorem dX6_putScarecrow_0 : decode cX6_putScarecrow 0 = .ok (.iload_n 1, 1) := by decide +kernel
theorem dX6_putScarecrow_1 : decode cX6_putScarecrow 1 = .ok (.invokestatic 317, 3) := by decide +kernel
theorem dX6_putScarecrow_4 : decode cX6_putScarecrow 4 = .ok (.ifCond .ne 6, 3) := by decide +kernel
theorem dX6_putScarecrow_7 : decode cX6_putScarecrow 7 = .ok (.bipush (-2), 2) := by decide +kernel
theorem dX6_putScarecrow_9 : decode cX6_putScarecrow 9 = .ok (.ireturn, 1) := by decide +kernel
theorem dX6_putScarecrow_10 : decode cX6_putScarecrow 10 = .ok (.aload_n 0, 1) := by decide +kernel
theorem dX6_putScarecrow_11 : decode cX6_putScarecrow 11 = .ok (.getfield 10, 3) := by decide +kernel
theorem dX6_putScarecrow_14 : decode cX6_putScarecrow 14 = .ok (.getfield 74, 3) := by decide +kernel
theorem dX6_putScarecrow_17 : decode cX6_putScarecrow 17 = .ok (.bipush 10, 2) := by decide +kernel
theorem dX6_putScarecrow_19 : decode cX6_putScarecrow 19 = .ok (.if_icmp .lt 11, 3) := by decide +kernel
theorem dX6_putScarecrow_22 : decode cX6_putScarecrow 22 = .ok (.aload_n 0, 1) := by decide +kernel
theorem dX6_putScarecrow_23 : decode cX6_putScarecrow 23 = .ok (.iconst 1, 1) := by decide +kernel
theorem dX6_putScarecrow_24 : decode cX6_putScarecrow 24 = .ok (.bipush 10, 2) := by decide +kernel
theorem dX6_putScarecrow_26 : decode cX6_putScarecrow 26 = .ok (.invokevirtual 330, 3) := by decide +kernel
theorem dX6_putScarecrow_29 : decode cX6_putScarecrow 29 = .ok (.ireturn, 1) := by decide +kernel
theorem dX6_putScarecrow_30 : decode cX6_putScarecrow 30 = .ok (.aload_n 0, 1) := by decide +kernel
theorem dX6_putScarecrow_31 : decode cX6_putScarecrow 31 = .ok (.getfield 10, 3) := by decide +kernel
theorem dX6_putScarecrow_34 : decode cX6_putScarecrow 34 = .ok (.iload_n 1, 1) := by decide +kernel
theorem dX6_putScarecrow_35 : decode cX6_putScarecrow 35 = .ok (.invokevirtual 93, 3) := by decide +kernel
theorem dX6_putScarecrow_38 : decode cX6_putScarecrow 38 = .ok (.istore_n 2, 1) := by decide +kernel
theorem dX6_putScarecrow_39 : decode cX6_putScarecrow 39 = .ok (.iload_n 2, 1) := by decide +kernel
theorem dX6_putScarecrow_40 : decode cX6_putScarecrow 40 = .ok (.iconst (-1), 1) := by decide +kernel
theorem dX6_putScarecrow_41 : decode cX6_putScarecrow 41 = .ok (.if_icmp .eq 10, 3) := by decide +kernel
theorem dX6_putScarecrow_44 : decode cX6_putScarecrow 44 = .ok (.aload_n 0, 1) := by decide +kernel
theorem dX6_putScarecrow_45 : decode cX6_putScarecrow 45 = .ok (.iconst 2, 1) := by decide +kernel
theorem dX6_putScarecrow_46 : decode cX6_putScarecrow 46 = .ok (.iload_n 2, 1) := by decide +kernel
theorem dX6_putScarecrow_47 : decode cX6_putScarecrow 47 = .ok (.invokevirtual 330, 3) := by decide +kernel
theorem dX6_putScarecrow_50 : decode cX6_putScarecrow 50 = .ok (.ireturn, 1) := by decide +kernel
theorem dX6_putScarecrow_51 : decode cX6_putScarecrow 51 = .ok (.aload_n 0, 1) := by decide +kernel
theorem dX6_putScarecrow_52 : decode cX6_putScarecrow 52 = .ok (.getfield 10, 3) := by decide +kernel
theorem dX6_putScarecrow_55 : decode cX6_putScarecrow 55 = .ok (.iload_n 1, 1) := by decide +kernel
theorem dX6_putScarecrow_56 : decode cX6_putScarecrow 56 = .ok (.invokevirtual 351, 3) := by decide +kernel
theorem dX6_putScarecrow_59 : decode cX6_putScarecrow 59 = .ok (.ireturn, 1) := by decide +kernel
set_option maxRecDepth 20000 in
theorem ggX6_moveScarecrow_X5_hasScarecrow : GoodIn wsX6_moveScarecrow wsX5_hasScarecrow := goodIn_r _ [6, 7, 47, 48, 49, 50, 51, 52, 53, 54, 55, 56, 57, 58] (by decide +kernel) (by decide +kernel)
set_option maxRecDepth 20000 in
theorem gX6_moveScarecrow_X5_hasScarecrow : GoodIn wsX6_moveScarecrow (wsV RX6 307 RX5 yX5_hasScarecrow wsX5_hasScarecrow) := goodIn_app (goodIn_of _ (by decide +kernel)) ggX6_moveScarecrow_X5_hasScarecrow
set_option maxRecDepth 20000 in
theorem ggX6_moveScarecrow_X6_isField : GoodIn wsX6_moveScarecrow wsX6_isField := goodIn_r _ [11] (by decide +kernel) (by decide +kernel)
set_option maxRecDepth 20000 in
theorem gX6_moveScarecrow_X6_isField : GoodIn wsX6_moveScarecrow (va_wsS RX6 317 yX6_isField wsX6_isField) := goodIn_app (goodIn_of _ (by decide +kernel)) ggX6_moveScarecrow_X6_isField
set_option maxRecDepth 20000 in
theorem ggX6_moveScarecrow_X5_scarecrowAt : GoodIn wsX6_moveScarecrow wsX5_scarecrowAt := goodIn_ca (goodIn_r _ [15, 7, 16, 17, 18, 19, 20, 21, 22, 47, 48, 49, 50, 51, 52, 53, 54, 55, 56, 57, 58, 59] (by decide +kernel) (by decide +kernel)) (goodIn_sub (fun _ h => List.mem_cons_of_mem _ (List.mem_append_right _ h)) (by decide +kernel))
set_option maxRecDepth 20000 in
theorem gX6_moveScarecrow_X5_scarecrowAt : GoodIn wsX6_moveScarecrow (wsV RX6 93 RX5 yX5_scarecrowAt wsX5_scarecrowAt) := goodIn_app (goodIn_of _ (by decide +kernel)) ggX6_moveScarecrow_X5_scarecrowAt
set_option maxRecDepth 20000 in
theorem ggX6_moveScarecrow_X6_deny : GoodIn wsX6_moveScarecrow wsX6_deny := goodIn_r _ [26, 27, 28, 29, 35, 36, 37, 38, 39, 40, 41, 42, 43, 44, 45, 46] (by decide +kernel) (by decide +kernel)
set_option maxRecDepth 20000 in
theorem gX6_moveScarecrow_X6_deny : GoodIn wsX6_moveScarecrow (wsV RX6 330 RX6 yX6_deny wsX6_deny) := goodIn_app (goodIn_of _ (by decide +kernel)) ggX6_moveScarecrow_X6_deny
set_option maxRecDepth 20000 in
theorem ggX6_moveScarecrow_X4_get : GoodIn wsX6_moveScarecrow wsX4_get := goodIn_ca (goodIn_r _ [21, 22, 59] (by decide +kernel) (by decide +kernel)) (goodIn_sub (fun _ h => List.mem_cons_of_mem _ (List.mem_append_right _ h)) (by decide +kernel))
set_option maxRecDepth 20000 in
theorem gX6_moveScarecrow_X4_get : GoodIn wsX6_moveScarecrow (wsV RX6 85 RX4 yX4_get wsX4_get) := goodIn_app (goodIn_of _ (by decide +kernel)) ggX6_moveScarecrow_X4_get
set_option maxRecDepth 20000 in
theorem ggX6_moveScarecrow_X4_set : GoodIn wsX6_moveScarecrow wsX4_set := goodIn_ca (goodIn_r _ [34, 22, 59] (by decide +kernel) (by decide +kernel)) (goodIn_sub (fun _ h => List.mem_cons_of_mem _ (List.mem_append_right _ h)) (by decide +kernel))
set_option maxRecDepth 20000 in
theorem gX6_moveScarecrow_X4_set : GoodIn wsX6_moveScarecrow (wsV RX6 354 RX4 yX4_set wsX4_set) := goodIn_app (goodIn_of _ (by decide +kernel)) ggX6_moveScarecrow_X4_set
theorem dX6_moveScarecrow_0 : decode cX6_moveScarecrow 0 = .ok (.aload_n 0, 1) := by decide +kernel
theorem dX6_moveScarecrow_1 : decode cX6_moveScarecrow 1 = .ok (.getfield 10, 3) := by decide +kernel
theorem dX6_moveScarecrow_4 : decode cX6_moveScarecrow 4 = .ok (.iload_n 1, 1) := by decide +kernel
theorem dX6_moveScarecrow_5 : decode cX6_moveScarecrow 5 = .ok (.invokevirtual 307, 3) := by decide +kernel
theorem dX6_moveScarecrow_8 : decode cX6_moveScarecrow 8 = .ok (.ifCond .ne 5, 3) := by decide +kernel
theorem dX6_moveScarecrow_11 : decode cX6_moveScarecrow 11 = .ok (.iconst (-1), 1) := by decide +kernel
theorem dX6_moveScarecrow_12 : decode cX6_moveScarecrow 12 = .ok (.ireturn, 1) := by decide +kernel
theorem dX6_moveScarecrow_13 : decode cX6_moveScarecrow 13 = .ok (.iload_n 2, 1) := by decide +kernel
theorem dX6_moveScarecrow_14 : decode cX6_moveScarecrow 14 = .ok (.invokestatic 317, 3) := by decide +kernel
theorem dX6_moveScarecrow_17 : decode cX6_moveScarecrow 17 = .ok (.ifCond .ne 6, 3) := by decide +kernel
theorem dX6_moveScarecrow_20 : decode cX6_moveScarecrow 20 = .ok (.bipush (-2), 2) := by decide +kernel
theorem dX6_moveScarecrow_22 : decode cX6_moveScarecrow 22 = .ok (.ireturn, 1) := by decide +kernel
theorem dX6_moveScarecrow_23 : decode cX6_moveScarecrow 23 = .ok (.aload_n 0, 1) := by decide +kernel
theorem dX6_moveScarecrow_24 : decode cX6_moveScarecrow 24 = .ok (.getfield 10, 3) := by decide +kernel
theorem dX6_moveScarecrow_27 : decode cX6_moveScarecrow 27 = .ok (.iload_n 2, 1) := by decide +kernel
theorem dX6_moveScarecrow_28 : decode cX6_moveScarecrow 28 = .ok (.invokevirtual 93, 3) := by decide +kernel
theorem dX6_moveScarecrow_31 : decode cX6_moveScarecrow 31 = .ok (.istore_n 3, 1) := by decide +kernel
theorem dX6_moveScarecrow_32 : decode cX6_moveScarecrow 32 = .ok (.iload_n 3, 1) := by decide +kernel
theorem dX6_moveScarecrow_33 : decode cX6_moveScarecrow 33 = .ok (.iconst (-1), 1) := by decide +kernel
theorem dX6_moveScarecrow_34 : decode cX6_moveScarecrow 34 = .ok (.if_icmp .eq 10, 3) := by decide +kernel
theorem dX6_moveScarecrow_37 : decode cX6_moveScarecrow 37 = .ok (.aload_n 0, 1) := by decide +kernel
theorem dX6_moveScarecrow_38 : decode cX6_moveScarecrow 38 = .ok (.iconst 2, 1) := by decide +kernel
theorem dX6_moveScarecrow_39 : decode cX6_moveScarecrow 39 = .ok (.iload_n 3, 1) := by decide +kernel
theorem dX6_moveScarecrow_40 : decode cX6_moveScarecrow 40 = .ok (.invokevirtual 330, 3) := by decide +kernel
theorem dX6_moveScarecrow_43 : decode cX6_moveScarecrow 43 = .ok (.ireturn, 1) := by decide +kernel
theorem dX6_moveScarecrow_44 : decode cX6_moveScarecrow 44 = .ok (.aload_n 0, 1) := by decide +kernel
theorem dX6_moveScarecrow_45 : decode cX6_moveScarecrow 45 = .ok (.getfield 10, 3) := by decide +kernel
theorem dX6_moveScarecrow_48 : decode cX6_moveScarecrow 48 = .ok (.getfield 81, 3) := by decide +kernel
theorem dX6_moveScarecrow_51 : decode cX6_moveScarecrow 51 = .ok (.iload_n 1, 1) := by decide +kernel
theorem dX6_moveScarecrow_52 : decode cX6_moveScarecrow 52 = .ok (.invokevirtual 85, 3) := by decide +kernel
theorem dX6_moveScarecrow_55 : decode cX6_moveScarecrow 55 = .ok (.istore 4, 2) := by decide +kernel
theorem dX6_moveScarecrow_57 : decode cX6_moveScarecrow 57 = .ok (.aload_n 0, 1) := by decide +kernel
theorem dX6_moveScarecrow_58 : decode cX6_moveScarecrow 58 = .ok (.getfield 10, 3) := by decide +kernel
theorem dX6_moveScarecrow_61 : decode cX6_moveScarecrow 61 = .ok (.getfield 81, 3) := by decide +kernel
theorem dX6_moveScarecrow_64 : decode cX6_moveScarecrow 64 = .ok (.iload_n 1, 1) := by decide +kernel
theorem dX6_moveScarecrow_65 : decode cX6_moveScarecrow 65 = .ok (.iload_n 2, 1) := by decide +kernel
theorem dX6_moveScarecrow_66 : decode cX6_moveScarecrow 66 = .ok (.invokevirtual 354, 3) := by decide +kernel
theorem dX6_moveScarecrow_69 : decode cX6_moveScarecrow 69 = .ok (.iload 4, 2) := by decide +kernel
theorem dX6_moveScarecrow_71 : decode cX6_moveScarecrow 71 = .ok (.ireturn, 1) := by decide +kernel
set_option maxRecDepth 20000 in
theorem ggX6_revokeOrRestore_X5_hasScarecrow : GoodIn wsX6_revokeOrRestore wsX5_hasScarecrow := goodIn_r _ [6, 7, 68, 69, 70, 71, 72, 73, 74, 75, 76, 77, 78, 79] (by decide +kernel) (by decide +kernel)
set_option maxRecDepth 20000 in
theorem gX6_revokeOrRestore_X5_hasScarecrow : GoodIn wsX6_revokeOrRestore (wsV RX6 307 RX5 yX5_hasScarecrow wsX5_hasScarecrow) := goodIn_app (goodIn_of _ (by decide +kernel)) ggX6_revokeOrRestore_X5_hasScarecrow
set_option maxRecDepth 20000 in
theorem ggX6_revokeOrRestore_X6_has : GoodIn wsX6_revokeOrRestore wsX6_has := goodIn_r _ [11] (by decide +kernel) (by decide +kernel)
set_option maxRecDepth 20000 in
theorem gX6_revokeOrRestore_X6_has : GoodIn wsX6_revokeOrRestore (va_wsS RX6 106 yX6_has wsX6_has) := goodIn_app (goodIn_of _ (by decide +kernel)) ggX6_revokeOrRestore_X6_has
set_option maxRecDepth 20000 in
theorem ggX6_revokeOrRestore_X6_deny : GoodIn wsX6_revokeOrRestore wsX6_deny := goodIn_r _ [15, 16, 17, 18, 56, 57, 58, 59, 60, 61, 62, 63, 64, 65, 66, 67] (by decide +kernel) (by decide +kernel)
set_option maxRecDepth 20000 in
theorem gX6_revokeOrRestore_X6_deny : GoodIn wsX6_revokeOrRestore (wsV RX6 330 RX6 yX6_deny wsX6_deny) := goodIn_app (goodIn_of _ (by decide +kernel)) ggX6_revokeOrRestore_X6_deny
set_option maxRecDepth 20000 in
theorem ggX6_revokeOrRestore_X5_certifiedNow : GoodIn wsX6_revokeOrRestore wsX5_certifiedNow := goodIn_ca (goodIn_r _ [22, 23, 24, 25, 26, 5, 27, 28, 29, 30, 31, 32, 33, 34, 35, 36, 37, 38, 39, 40, 41, 42, 43, 44, 9, 10, 11, 45, 46, 47, 48, 68, 69, 70, 71, 72, 73, 74, 75, 76, 77, 78, 79, 80] (by decide +kernel) (by decide +kernel)) (goodIn_sub (fun _ h => List.mem_cons_of_mem _ (List.mem_append_right _ h)) (by decide +kernel))
set_option maxRecDepth 20000 in
theorem gX6_revokeOrRestore_X5_certifiedNow : GoodIn wsX6_revokeOrRestore (wsV RX6 110 RX5 yX5_certifiedNow wsX5_certifiedNow) := goodIn_app (goodIn_of _ (by decide +kernel)) ggX6_revokeOrRestore_X5_certifiedNow
set_option maxRecDepth 20000 in
theorem ggX6_revokeOrRestore_J6_bitCount_0f7a4 : GoodIn wsX6_revokeOrRestore wsJ6_bitCount_0f7a4 := goodIn_r _ [52, 53, 54, 55] (by decide +kernel) (by decide +kernel)
set_option maxRecDepth 20000 in
theorem gX6_revokeOrRestore_J6_bitCount_0f7a4 : GoodIn wsX6_revokeOrRestore (va_wsS RX6 164 yJ6_bitCount_0f7a4 wsJ6_bitCount_0f7a4) := goodIn_app (goodIn_of _ (by decide +kernel)) ggX6_revokeOrRestore_J6_bitCount_0f7a4
theorem dX6_revokeOrRestore_0 : decode cX6_revokeOrRestore 0 = .ok (.aload_n 0, 1) := by decide +kernel
theorem dX6_revokeOrRestore_1 : decode cX6_revokeOrRestore 1 = .ok (.getfield 10, 3) := by decide +kernel
theorem dX6_revokeOrRestore_4 : decode cX6_revokeOrRestore 4 = .ok (.iload_n 1, 1) := by decide +kernel
theorem dX6_revokeOrRestore_5 : decode cX6_revokeOrRestore 5 = .ok (.invokevirtual 307, 3) := by decide +kernel
theorem dX6_revokeOrRestore_8 : decode cX6_revokeOrRestore 8 = .ok (.ifCond .ne 5, 3) := by decide +kernel
theorem dX6_revokeOrRestore_11 : decode cX6_revokeOrRestore 11 = .ok (.iconst (-1), 1) := by decide +kernel
theorem dX6_revokeOrRestore_12 : decode cX6_revokeOrRestore 12 = .ok (.ireturn, 1) := by decide +kernel
theorem dX6_revokeOrRestore_13 : decode cX6_revokeOrRestore 13 = .ok (.aload_n 0, 1) := by decide +kernel
theorem dX6_revokeOrRestore_14 : decode cX6_revokeOrRestore 14 = .ok (.getfield 10, 3) := by decide +kernel
theorem dX6_revokeOrRestore_17 : decode cX6_revokeOrRestore 17 = .ok (.getfield 103, 3) := by decide +kernel
theorem dX6_revokeOrRestore_20 : decode cX6_revokeOrRestore 20 = .ok (.iload_n 1, 1) := by decide +kernel
theorem dX6_revokeOrRestore_21 : decode cX6_revokeOrRestore 21 = .ok (.invokestatic 106, 3) := by decide +kernel
theorem dX6_revokeOrRestore_24 : decode cX6_revokeOrRestore 24 = .ok (.iload_n 2, 1) := by decide +kernel
theorem dX6_revokeOrRestore_25 : decode cX6_revokeOrRestore 25 = .ok (.if_icmp .ne 18, 3) := by decide +kernel
theorem dX6_revokeOrRestore_28 : decode cX6_revokeOrRestore 28 = .ok (.aload_n 0, 1) := by decide +kernel
theorem dX6_revokeOrRestore_29 : decode cX6_revokeOrRestore 29 = .ok (.iconst 5, 1) := by decide +kernel
theorem dX6_revokeOrRestore_30 : decode cX6_revokeOrRestore 30 = .ok (.iload_n 2, 1) := by decide +kernel
theorem dX6_revokeOrRestore_31 : decode cX6_revokeOrRestore 31 = .ok (.ifCond .eq 7, 3) := by decide +kernel
theorem dX6_revokeOrRestore_34 : decode cX6_revokeOrRestore 34 = .ok (.iconst 1, 1) := by decide +kernel
theorem dX6_revokeOrRestore_35 : decode cX6_revokeOrRestore 35 = .ok (.goto 4, 3) := by decide +kernel
theorem dX6_revokeOrRestore_38 : decode cX6_revokeOrRestore 38 = .ok (.iconst 0, 1) := by decide +kernel
theorem dX6_revokeOrRestore_39 : decode cX6_revokeOrRestore 39 = .ok (.invokevirtual 330, 3) := by decide +kernel
theorem dX6_revokeOrRestore_42 : decode cX6_revokeOrRestore 42 = .ok (.ireturn, 1) := by decide +kernel
theorem dX6_revokeOrRestore_43 : decode cX6_revokeOrRestore 43 = .ok (.aload_n 0, 1) := by decide +kernel
theorem dX6_revokeOrRestore_44 : decode cX6_revokeOrRestore 44 = .ok (.getfield 10, 3) := by decide +kernel
theorem dX6_revokeOrRestore_47 : decode cX6_revokeOrRestore 47 = .ok (.dup, 1) := by decide +kernel
theorem dX6_revokeOrRestore_48 : decode cX6_revokeOrRestore 48 = .ok (.getfield 103, 3) := by decide +kernel
theorem dX6_revokeOrRestore_51 : decode cX6_revokeOrRestore 51 = .ok (.iconst 1, 1) := by decide +kernel
theorem dX6_revokeOrRestore_52 : decode cX6_revokeOrRestore 52 = .ok (.iload_n 1, 1) := by decide +kernel
theorem dX6_revokeOrRestore_53 : decode cX6_revokeOrRestore 53 = .ok (.ishl, 1) := by decide +kernel
theorem dX6_revokeOrRestore_54 : decode cX6_revokeOrRestore 54 = .ok (.ixor, 1) := by decide +kernel
theorem dX6_revokeOrRestore_55 : decode cX6_revokeOrRestore 55 = .ok (.putfield 103, 3) := by decide +kernel
theorem dX6_revokeOrRestore_58 : decode cX6_revokeOrRestore 58 = .ok (.aload_n 0, 1) := by decide +kernel
theorem dX6_revokeOrRestore_59 : decode cX6_revokeOrRestore 59 = .ok (.getfield 10, 3) := by decide +kernel
theorem dX6_revokeOrRestore_62 : decode cX6_revokeOrRestore 62 = .ok (.invokevirtual 110, 3) := by decide +kernel
theorem dX6_revokeOrRestore_65 : decode cX6_revokeOrRestore 65 = .ok (.invokestatic 164, 3) := by decide +kernel
theorem dX6_revokeOrRestore_68 : decode cX6_revokeOrRestore 68 = .ok (.ireturn, 1) := by decide +kernel
set_option maxRecDepth 20000 in
theorem ggX6_certifyByRegistry_X5_hasScarecrow : GoodIn wsX6_certifyByRegistry wsX5_hasScarecrow := goodIn_r _ [6, 7, 52, 53, 54, 55, 56, 57, 58, 59, 60, 61, 62, 63] (by decide +kernel) (by decide +kernel)
set_option maxRecDepth 20000 in
theorem gX6_certifyByRegistry_X5_hasScarecrow : GoodIn wsX6_certifyByRegistry (wsV RX6 307 RX5 yX5_hasScarecrow wsX5_hasScarecrow) := goodIn_app (goodIn_of _ (by decide +kernel)) ggX6_certifyByRegistry_X5_hasScarecrow
set_option maxRecDepth 20000 in
theorem ggX6_certifyByRegistry_X6_canBeHeldFor : GoodIn wsX6_certifyByRegistry wsX6_canBeHeldFor := goodIn_r _ [11] (by decide +kernel) (by decide +kernel)
set_option maxRecDepth 20000 in
theorem gX6_certifyByRegistry_X6_canBeHeldFor : GoodIn wsX6_certifyByRegistry (va_wsS RX6 357 yX6_canBeHeldFor wsX6_canBeHeldFor) := goodIn_app (goodIn_of _ (by decide +kernel)) ggX6_certifyByRegistry_X6_canBeHeldFor
set_option maxRecDepth 20000 in
theorem ggX6_certifyByRegistry_X6_deny : GoodIn wsX6_certifyByRegistry wsX6_deny := goodIn_r _ [15, 16, 17, 18, 40, 41, 42, 43, 44, 45, 46, 47, 48, 49, 50, 51] (by decide +kernel) (by decide +kernel)
set_option maxRecDepth 20000 in
theorem gX6_certifyByRegistry_X6_deny : GoodIn wsX6_certifyByRegistry (wsV RX6 330 RX6 yX6_deny wsX6_deny) := goodIn_app (goodIn_of _ (by decide +kernel)) ggX6_certifyByRegistry_X6_deny
set_option maxRecDepth 20000 in
theorem ggX6_certifyByRegistry_X5_addCertificate : GoodIn wsX6_certifyByRegistry wsX5_addCertificate := goodIn_ca (goodIn_r _ [22, 23, 24, 25, 26, 27, 28, 29, 30, 31, 32, 33, 34, 35, 36, 37, 38, 39, 52, 53, 54, 55, 56, 57, 58, 59, 60, 61, 62, 63, 64] (by decide +kernel) (by decide +kernel)) (goodIn_sub (fun _ h => List.mem_cons_of_mem _ (List.mem_append_right _ h)) (by decide +kernel))
set_option maxRecDepth 20000 in
theorem gX6_certifyByRegistry_X5_addCertificate : GoodIn wsX6_certifyByRegistry (wsV RX6 360 RX5 yX5_addCertificate wsX5_addCertificate) := goodIn_app (goodIn_of _ (by decide +kernel)) ggX6_certifyByRegistry_X5_addCertificate
theorem dX6_certifyByRegistry_0 : decode cX6_certifyByRegistry 0 = .ok (.aload_n 0, 1) := by decide +kernel
theorem dX6_certifyByRegistry_1 : decode cX6_certifyByRegistry 1 = .ok (.getfield 10, 3) := by decide +kernel
theorem dX6_certifyByRegistry_4 : decode cX6_certifyByRegistry 4 = .ok (.iload_n 1, 1) := by decide +kernel
theorem dX6_certifyByRegistry_5 : decode cX6_certifyByRegistry 5 = .ok (.invokevirtual 307, 3) := by decide +kernel
theorem dX6_certifyByRegistry_8 : decode cX6_certifyByRegistry 8 = .ok (.ifCond .ne 5, 3) := by decide +kernel
theorem dX6_certifyByRegistry_11 : decode cX6_certifyByRegistry 11 = .ok (.iconst (-1), 1) := by decide +kernel
theorem dX6_certifyByRegistry_12 : decode cX6_certifyByRegistry 12 = .ok (.ireturn, 1) := by decide +kernel
theorem dX6_certifyByRegistry_13 : decode cX6_certifyByRegistry 13 = .ok (.iload_n 2, 1) := by decide +kernel
theorem dX6_certifyByRegistry_14 : decode cX6_certifyByRegistry 14 = .ok (.invokestatic 357, 3) := by decide +kernel
theorem dX6_certifyByRegistry_17 : decode cX6_certifyByRegistry 17 = .ok (.ifCond .ne 6, 3) := by decide +kernel
theorem dX6_certifyByRegistry_20 : decode cX6_certifyByRegistry 20 = .ok (.bipush (-2), 2) := by decide +kernel
theorem dX6_certifyByRegistry_22 : decode cX6_certifyByRegistry 22 = .ok (.ireturn, 1) := by decide +kernel
theorem dX6_certifyByRegistry_23 : decode cX6_certifyByRegistry 23 = .ok (.aload_n 0, 1) := by decide +kernel
theorem dX6_certifyByRegistry_24 : decode cX6_certifyByRegistry 24 = .ok (.getfield 10, 3) := by decide +kernel
theorem dX6_certifyByRegistry_27 : decode cX6_certifyByRegistry 27 = .ok (.getfield 144, 3) := by decide +kernel
theorem dX6_certifyByRegistry_30 : decode cX6_certifyByRegistry 30 = .ok (.bipush 20, 2) := by decide +kernel
theorem dX6_certifyByRegistry_32 : decode cX6_certifyByRegistry 32 = .ok (.if_icmp .lt 11, 3) := by decide +kernel
theorem dX6_certifyByRegistry_35 : decode cX6_certifyByRegistry 35 = .ok (.aload_n 0, 1) := by decide +kernel
theorem dX6_certifyByRegistry_36 : decode cX6_certifyByRegistry 36 = .ok (.iconst 1, 1) := by decide +kernel
theorem dX6_certifyByRegistry_37 : decode cX6_certifyByRegistry 37 = .ok (.bipush 20, 2) := by decide +kernel
theorem dX6_certifyByRegistry_39 : decode cX6_certifyByRegistry 39 = .ok (.invokevirtual 330, 3) := by decide +kernel
theorem dX6_certifyByRegistry_42 : decode cX6_certifyByRegistry 42 = .ok (.ireturn, 1) := by decide +kernel
theorem dX6_certifyByRegistry_43 : decode cX6_certifyByRegistry 43 = .ok (.aload_n 0, 1) := by decide +kernel
theorem dX6_certifyByRegistry_44 : decode cX6_certifyByRegistry 44 = .ok (.getfield 10, 3) := by decide +kernel
theorem dX6_certifyByRegistry_47 : decode cX6_certifyByRegistry 47 = .ok (.iconst (-1), 1) := by decide +kernel
theorem dX6_certifyByRegistry_48 : decode cX6_certifyByRegistry 48 = .ok (.iload_n 1, 1) := by decide +kernel
theorem dX6_certifyByRegistry_49 : decode cX6_certifyByRegistry 49 = .ok (.iload_n 2, 1) := by decide +kernel
theorem dX6_certifyByRegistry_50 : decode cX6_certifyByRegistry 50 = .ok (.invokevirtual 360, 3) := by decide +kernel
theorem dX6_certifyByRegistry_53 : decode cX6_certifyByRegistry 53 = .ok (.ireturn, 1) := by decide +kernel
set_option maxRecDepth 20000 in
theorem ggX6_certifyByScarecrow_X5_hasScarecrow : GoodIn wsX6_certifyByScarecrow wsX5_hasScarecrow := goodIn_r _ [6, 7, 72, 73, 74, 75, 76, 77, 78, 79, 80, 81, 82, 83] (by decide +kernel) (by decide +kernel)
set_option maxRecDepth 20000 in
theorem gX6_certifyByScarecrow_X5_hasScarecrow : GoodIn wsX6_certifyByScarecrow (wsV RX6 307 RX5 yX5_hasScarecrow wsX5_hasScarecrow) := goodIn_app (goodIn_of _ (by decide +kernel)) ggX6_certifyByScarecrow_X5_hasScarecrow
set_option maxRecDepth 20000 in
theorem ggX6_certifyByScarecrow_X6_canBeHeldFor : GoodIn wsX6_certifyByScarecrow wsX6_canBeHeldFor := goodIn_r _ [11] (by decide +kernel) (by decide +kernel)
set_option maxRecDepth 20000 in
theorem gX6_certifyByScarecrow_X6_canBeHeldFor : GoodIn wsX6_certifyByScarecrow (va_wsS RX6 357 yX6_canBeHeldFor wsX6_canBeHeldFor) := goodIn_app (goodIn_of _ (by decide +kernel)) ggX6_certifyByScarecrow_X6_canBeHeldFor
set_option maxRecDepth 20000 in
theorem ggX6_certifyByScarecrow_X6_deny : GoodIn wsX6_certifyByScarecrow wsX6_deny := goodIn_r _ [15, 16, 17, 18, 60, 61, 62, 63, 64, 65, 66, 67, 68, 69, 70, 71] (by decide +kernel) (by decide +kernel)
set_option maxRecDepth 20000 in
theorem gX6_certifyByScarecrow_X6_deny : GoodIn wsX6_certifyByScarecrow (wsV RX6 330 RX6 yX6_deny wsX6_deny) := goodIn_app (goodIn_of _ (by decide +kernel)) ggX6_certifyByScarecrow_X6_deny
set_option maxRecDepth 20000 in
theorem ggX6_certifyByScarecrow_X5_certifiedNow : GoodIn wsX6_certifyByScarecrow wsX5_certifiedNow := goodIn_ca (goodIn_r _ [22, 23, 24, 25, 26, 5, 27, 28, 29, 30, 31, 32, 33, 34, 35, 36, 37, 38, 39, 40, 41, 42, 43, 44, 45, 10, 46, 47, 48, 49, 50, 72, 73, 74, 75, 76, 77, 78, 79, 80, 81, 82, 83, 84] (by decide +kernel) (by decide +kernel)) (goodIn_sub (fun _ h => List.mem_cons_of_mem _ (List.mem_append_right _ h)) (by decide +kernel))
set_option maxRecDepth 20000 in
theorem gX6_certifyByScarecrow_X5_certifiedNow : GoodIn wsX6_certifyByScarecrow (wsV RX6 110 RX5 yX5_certifiedNow wsX5_certifiedNow) := goodIn_app (goodIn_of _ (by decide +kernel)) ggX6_certifyByScarecrow_X5_certifiedNow
set_option maxRecDepth 20000 in
theorem ggX6_certifyByScarecrow_X6_has : GoodIn wsX6_certifyByScarecrow wsX6_has := goodIn_r _ [46] (by decide +kernel) (by decide +kernel)
set_option maxRecDepth 20000 in
theorem gX6_certifyByScarecrow_X6_has : GoodIn wsX6_certifyByScarecrow (va_wsS RX6 106 yX6_has wsX6_has) := goodIn_app (goodIn_of _ (by decide +kernel)) ggX6_certifyByScarecrow_X6_has
set_option maxRecDepth 20000 in
theorem ggX6_certifyByScarecrow_X5_addCertificate : GoodIn wsX6_certifyByScarecrow wsX5_addCertificate := goodIn_ca (goodIn_r _ [55, 33, 34, 36, 37, 35, 38, 23, 56, 57, 58, 42, 59, 44, 39, 40, 41, 43, 72, 73, 74, 75, 76, 77, 78, 79, 80, 81, 82, 83, 84] (by decide +kernel) (by decide +kernel)) (goodIn_sub (fun _ h => List.mem_cons_of_mem _ (List.mem_append_right _ h)) (by decide +kernel))
set_option maxRecDepth 20000 in
theorem gX6_certifyByScarecrow_X5_addCertificate : GoodIn wsX6_certifyByScarecrow (wsV RX6 360 RX5 yX5_addCertificate wsX5_addCertificate) := goodIn_app (goodIn_of _ (by decide +kernel)) ggX6_certifyByScarecrow_X5_addCertificate
theorem dX6_certifyByScarecrow_0 : decode cX6_certifyByScarecrow 0 = .ok (.aload_n 0, 1) := by decide +kernel
theorem dX6_certifyByScarecrow_1 : decode cX6_certifyByScarecrow 1 = .ok (.getfield 10, 3) := by decide +kernel
theorem dX6_certifyByScarecrow_4 : decode cX6_certifyByScarecrow 4 = .ok (.iload_n 1, 1) := by decide +kernel
theorem dX6_certifyByScarecrow_5 : decode cX6_certifyByScarecrow 5 = .ok (.invokevirtual 307, 3) := by decide +kernel
theorem dX6_certifyByScarecrow_8 : decode cX6_certifyByScarecrow 8 = .ok (.ifCond .eq 14, 3) := by decide +kernel
theorem dX6_certifyByScarecrow_11 : decode cX6_certifyByScarecrow 11 = .ok (.aload_n 0, 1) := by decide +kernel
theorem dX6_certifyByScarecrow_12 : decode cX6_certifyByScarecrow 12 = .ok (.getfield 10, 3) := by decide +kernel
theorem dX6_certifyByScarecrow_15 : decode cX6_certifyByScarecrow 15 = .ok (.iload_n 2, 1) := by decide +kernel
theorem dX6_certifyByScarecrow_16 : decode cX6_certifyByScarecrow 16 = .ok (.invokevirtual 307, 3) := by decide +kernel
theorem dX6_certifyByScarecrow_19 : decode cX6_certifyByScarecrow 19 = .ok (.ifCond .ne 5, 3) := by decide +kernel
theorem dX6_certifyByScarecrow_22 : decode cX6_certifyByScarecrow 22 = .ok (.iconst (-1), 1) := by decide +kernel
theorem dX6_certifyByScarecrow_23 : decode cX6_certifyByScarecrow 23 = .ok (.ireturn, 1) := by decide +kernel
theorem dX6_certifyByScarecrow_24 : decode cX6_certifyByScarecrow 24 = .ok (.iload_n 3, 1) := by decide +kernel
theorem dX6_certifyByScarecrow_25 : decode cX6_certifyByScarecrow 25 = .ok (.invokestatic 357, 3) := by decide +kernel
theorem dX6_certifyByScarecrow_28 : decode cX6_certifyByScarecrow 28 = .ok (.ifCond .ne 6, 3) := by decide +kernel
theorem dX6_certifyByScarecrow_31 : decode cX6_certifyByScarecrow 31 = .ok (.bipush (-2), 2) := by decide +kernel
theorem dX6_certifyByScarecrow_33 : decode cX6_certifyByScarecrow 33 = .ok (.ireturn, 1) := by decide +kernel
theorem dX6_certifyByScarecrow_34 : decode cX6_certifyByScarecrow 34 = .ok (.iload_n 1, 1) := by decide +kernel
theorem dX6_certifyByScarecrow_35 : decode cX6_certifyByScarecrow 35 = .ok (.iload_n 2, 1) := by decide +kernel
theorem dX6_certifyByScarecrow_36 : decode cX6_certifyByScarecrow 36 = .ok (.if_icmp .ne 10, 3) := by decide +kernel
theorem dX6_certifyByScarecrow_39 : decode cX6_certifyByScarecrow 39 = .ok (.aload_n 0, 1) := by decide +kernel
theorem dX6_certifyByScarecrow_40 : decode cX6_certifyByScarecrow 40 = .ok (.iconst 4, 1) := by decide +kernel
theorem dX6_certifyByScarecrow_41 : decode cX6_certifyByScarecrow 41 = .ok (.iload_n 1, 1) := by decide +kernel
theorem dX6_certifyByScarecrow_42 : decode cX6_certifyByScarecrow 42 = .ok (.invokevirtual 330, 3) := by decide +kernel
theorem dX6_certifyByScarecrow_45 : decode cX6_certifyByScarecrow 45 = .ok (.ireturn, 1) := by decide +kernel
theorem dX6_certifyByScarecrow_46 : decode cX6_certifyByScarecrow 46 = .ok (.aload_n 0, 1) := by decide +kernel
theorem dX6_certifyByScarecrow_47 : decode cX6_certifyByScarecrow 47 = .ok (.getfield 10, 3) := by decide +kernel
theorem dX6_certifyByScarecrow_50 : decode cX6_certifyByScarecrow 50 = .ok (.invokevirtual 110, 3) := by decide +kernel
theorem dX6_certifyByScarecrow_53 : decode cX6_certifyByScarecrow 53 = .ok (.iload_n 1, 1) := by decide +kernel
theorem dX6_certifyByScarecrow_54 : decode cX6_certifyByScarecrow 54 = .ok (.invokestatic 106, 3) := by decide +kernel
theorem dX6_certifyByScarecrow_57 : decode cX6_certifyByScarecrow 57 = .ok (.ifCond .ne 10, 3) := by decide +kernel
theorem dX6_certifyByScarecrow_60 : decode cX6_certifyByScarecrow 60 = .ok (.aload_n 0, 1) := by decide +kernel
theorem dX6_certifyByScarecrow_61 : decode cX6_certifyByScarecrow 61 = .ok (.iconst 3, 1) := by decide +kernel
theorem dX6_certifyByScarecrow_62 : decode cX6_certifyByScarecrow 62 = .ok (.iload_n 1, 1) := by decide +kernel
theorem dX6_certifyByScarecrow_63 : decode cX6_certifyByScarecrow 63 = .ok (.invokevirtual 330, 3) := by decide +kernel
theorem dX6_certifyByScarecrow_66 : decode cX6_certifyByScarecrow 66 = .ok (.ireturn, 1) := by decide +kernel
theorem dX6_certifyByScarecrow_67 : decode cX6_certifyByScarecrow 67 = .ok (.aload_n 0, 1) := by decide +kernel
theorem dX6_certifyByScarecrow_68 : decode cX6_certifyByScarecrow 68 = .ok (.getfield 10, 3) := by decide +kernel
theorem dX6_certifyByScarecrow_71 : decode cX6_certifyByScarecrow 71 = .ok (.getfield 144, 3) := by decide +kernel
theorem dX6_certifyByScarecrow_74 : decode cX6_certifyByScarecrow 74 = .ok (.bipush 20, 2) := by decide +kernel
theorem dX6_certifyByScarecrow_76 : decode cX6_certifyByScarecrow 76 = .ok (.if_icmp .lt 11, 3) := by decide +kernel
theorem dX6_certifyByScarecrow_79 : decode cX6_certifyByScarecrow 79 = .ok (.aload_n 0, 1) := by decide +kernel
theorem dX6_certifyByScarecrow_80 : decode cX6_certifyByScarecrow 80 = .ok (.iconst 1, 1) := by decide +kernel
theorem dX6_certifyByScarecrow_81 : decode cX6_certifyByScarecrow 81 = .ok (.bipush 20, 2) := by decide +kernel
theorem dX6_certifyByScarecrow_83 : decode cX6_certifyByScarecrow 83 = .ok (.invokevirtual 330, 3) := by decide +kernel
theorem dX6_certifyByScarecrow_86 : decode cX6_certifyByScarecrow 86 = .ok (.ireturn, 1) := by decide +kernel
theorem dX6_certifyByScarecrow_87 : decode cX6_certifyByScarecrow 87 = .ok (.aload_n 0, 1) := by decide +kernel
theorem dX6_certifyByScarecrow_88 : decode cX6_certifyByScarecrow 88 = .ok (.getfield 10, 3) := by decide +kernel
theorem dX6_certifyByScarecrow_91 : decode cX6_certifyByScarecrow 91 = .ok (.iload_n 1, 1) := by decide +kernel
theorem dX6_certifyByScarecrow_92 : decode cX6_certifyByScarecrow 92 = .ok (.iload_n 2, 1) := by decide +kernel
theorem dX6_certifyByScarecrow_93 : decode cX6_certifyByScarecrow 93 = .ok (.iload_n 3, 1) := by decide +kernel
theorem dX6_certifyByScarecrow_94 : decode cX6_certifyByScarecrow 94 = .ok (.invokevirtual 360, 3) := by decide +kernel
theorem dX6_certifyByScarecrow_97 : decode cX6_certifyByScarecrow 97 = .ok (.ireturn, 1) := by decide +kernel
set_option maxRecDepth 20000 in
theorem ggX6_dropCertificate_X5_hasCertificate : GoodIn wsX6_dropCertificate wsX5_hasCertificate := goodIn_r _ [6, 7, 38, 39, 40, 41, 42, 43, 44, 45, 46, 47, 48, 49] (by decide +kernel) (by decide +kernel)
set_option maxRecDepth 20000 in
theorem gX6_dropCertificate_X5_hasCertificate : GoodIn wsX6_dropCertificate (wsV RX6 312 RX5 yX5_hasCertificate wsX5_hasCertificate) := goodIn_app (goodIn_of _ (by decide +kernel)) ggX6_dropCertificate_X5_hasCertificate
set_option maxRecDepth 20000 in
theorem ggX6_dropCertificate_X4_get : GoodIn wsX6_dropCertificate wsX4_get := goodIn_ca (goodIn_r _ [12, 13, 50] (by decide +kernel) (by decide +kernel)) (goodIn_sub (fun _ h => List.mem_cons_of_mem _ (List.mem_append_right _ h)) (by decide +kernel))
set_option maxRecDepth 20000 in
theorem gX6_dropCertificate_X4_get : GoodIn wsX6_dropCertificate (wsV RX6 85 RX4 yX4_get wsX4_get) := goodIn_app (goodIn_of _ (by decide +kernel)) ggX6_dropCertificate_X4_get
set_option maxRecDepth 20000 in
theorem ggX6_dropCertificate_X5_removeCertificate : GoodIn wsX6_dropCertificate wsX5_removeCertificate := goodIn_ca (goodIn_r _ [17, 18, 19, 20, 21, 7, 22, 23, 24, 11, 25, 13, 38, 39, 40, 41, 42, 43, 44, 45, 46, 47, 48, 49, 50] (by decide +kernel) (by decide +kernel)) (goodIn_sub (fun _ h => List.mem_cons_of_mem _ (List.mem_append_right _ h)) (by decide +kernel))
set_option maxRecDepth 20000 in
theorem gX6_dropCertificate_X5_removeCertificate : GoodIn wsX6_dropCertificate (wsV RX6 363 RX5 yX5_removeCertificate wsX5_removeCertificate) := goodIn_app (goodIn_of _ (by decide +kernel)) ggX6_dropCertificate_X5_removeCertificate
theorem dX6_dropCertificate_0 : decode cX6_dropCertificate 0 = .ok (.aload_n 0, 1) := by decide +kernel
theorem dX6_dropCertificate_1 : decode cX6_dropCertificate 1 = .ok (.getfield 10, 3) := by decide +kernel
theorem dX6_dropCertificate_4 : decode cX6_dropCertificate 4 = .ok (.iload_n 1, 1) := by decide +kernel
theorem dX6_dropCertificate_5 : decode cX6_dropCertificate 5 = .ok (.invokevirtual 312, 3) := by decide +kernel
theorem dX6_dropCertificate_8 : decode cX6_dropCertificate 8 = .ok (.ifCond .ne 5, 3) := by decide +kernel
theorem dX6_dropCertificate_11 : decode cX6_dropCertificate 11 = .ok (.iconst (-1), 1) := by decide +kernel
theorem dX6_dropCertificate_12 : decode cX6_dropCertificate 12 = .ok (.ireturn, 1) := by decide +kernel
theorem dX6_dropCertificate_13 : decode cX6_dropCertificate 13 = .ok (.aload_n 0, 1) := by decide +kernel
theorem dX6_dropCertificate_14 : decode cX6_dropCertificate 14 = .ok (.getfield 10, 3) := by decide +kernel
theorem dX6_dropCertificate_17 : decode cX6_dropCertificate 17 = .ok (.getfield 155, 3) := by decide +kernel
theorem dX6_dropCertificate_20 : decode cX6_dropCertificate 20 = .ok (.iload_n 1, 1) := by decide +kernel
theorem dX6_dropCertificate_21 : decode cX6_dropCertificate 21 = .ok (.invokevirtual 85, 3) := by decide +kernel
theorem dX6_dropCertificate_24 : decode cX6_dropCertificate 24 = .ok (.istore_n 2, 1) := by decide +kernel
theorem dX6_dropCertificate_25 : decode cX6_dropCertificate 25 = .ok (.aload_n 0, 1) := by decide +kernel
theorem dX6_dropCertificate_26 : decode cX6_dropCertificate 26 = .ok (.getfield 10, 3) := by decide +kernel
theorem dX6_dropCertificate_29 : decode cX6_dropCertificate 29 = .ok (.iload_n 1, 1) := by decide +kernel
theorem dX6_dropCertificate_30 : decode cX6_dropCertificate 30 = .ok (.invokevirtual 363, 3) := by decide +kernel
theorem dX6_dropCertificate_33 : decode cX6_dropCertificate 33 = .ok (.iload_n 2, 1) := by decide +kernel
theorem dX6_dropCertificate_34 : decode cX6_dropCertificate 34 = .ok (.ireturn, 1) := by decide +kernel
set_option maxRecDepth 20000 in
theorem ggX6_putGrains_X6_isField : GoodIn wsX6_putGrains wsX6_isField := goodIn_r _ [5] (by decide +kernel) (by decide +kernel)
set_option maxRecDepth 20000 in
theorem gX6_putGrains_X6_isField : GoodIn wsX6_putGrains (va_wsS RX6 317 yX6_isField wsX6_isField) := goodIn_app (goodIn_of _ (by decide +kernel)) ggX6_putGrains_X6_isField
set_option maxRecDepth 20000 in
theorem ggX6_putGrains_X4_get : GoodIn wsX6_putGrains wsX4_get := goodIn_ca (goodIn_r _ [10, 11, 47] (by decide +kernel) (by decide +kernel)) (goodIn_sub (fun _ h => List.mem_cons_of_mem _ (List.mem_append_right _ h)) (by decide +kernel))
set_option maxRecDepth 20000 in
theorem gX6_putGrains_X4_get : GoodIn wsX6_putGrains (wsV RX6 85 RX4 yX4_get wsX4_get) := goodIn_app (goodIn_of _ (by decide +kernel)) ggX6_putGrains_X4_get
set_option maxRecDepth 20000 in
theorem ggX6_putGrains_X6_deny : GoodIn wsX6_putGrains wsX6_deny := goodIn_r _ [15, 16, 17, 18, 23, 24, 25, 26, 27, 28, 29, 30, 31, 32, 33, 34] (by decide +kernel) (by decide +kernel)
set_option maxRecDepth 20000 in
theorem gX6_putGrains_X6_deny : GoodIn wsX6_putGrains (wsV RX6 330 RX6 yX6_deny wsX6_deny) := goodIn_app (goodIn_of _ (by decide +kernel)) ggX6_putGrains_X6_deny
set_option maxRecDepth 20000 in
theorem ggX6_putGrains_X4_set : GoodIn wsX6_putGrains wsX4_set := goodIn_ca (goodIn_r _ [22, 11, 47] (by decide +kernel) (by decide +kernel)) (goodIn_sub (fun _ h => List.mem_cons_of_mem _ (List.mem_append_right _ h)) (by decide +kernel))
set_option maxRecDepth 20000 in
theorem gX6_putGrains_X4_set : GoodIn wsX6_putGrains (wsV RX6 354 RX4 yX4_set wsX4_set) := goodIn_app (goodIn_of _ (by decide +kernel)) ggX6_putGrains_X4_set
theorem dX6_putGrains_0 : decode cX6_putGrains 0 = .ok (.iload_n 1, 1) := by decide +kernel
theorem dX6_putGrains_1 : decode cX6_putGrains 1 = .ok (.invokestatic 317, 3) := by decide +kernel
theorem dX6_putGrains_4 : decode cX6_putGrains 4 = .ok (.ifCond .eq 14, 3) := by decide +kernel
theorem dX6_putGrains_7 : decode cX6_putGrains 7 = .ok (.iload_n 2, 1) := by decide +kernel
theorem dX6_putGrains_8 : decode cX6_putGrains 8 = .ok (.iconst 1, 1) := by decide +kernel
theorem dX6_putGrains_9 : decode cX6_putGrains 9 = .ok (.if_icmp .lt 9, 3) := by decide +kernel
theorem dX6_putGrains_12 : decode cX6_putGrains 12 = .ok (.iload_n 2, 1) := by decide +kernel
theorem dX6_putGrains_13 : decode cX6_putGrains 13 = .ok (.bipush 99, 2) := by decide +kernel
theorem dX6_putGrains_15 : decode cX6_putGrains 15 = .ok (.if_icmp .le 6, 3) := by decide +kernel
theorem dX6_putGrains_18 : decode cX6_putGrains 18 = .ok (.bipush (-2), 2) := by decide +kernel
theorem dX6_putGrains_20 : decode cX6_putGrains 20 = .ok (.ireturn, 1) := by decide +kernel
theorem dX6_putGrains_21 : decode cX6_putGrains 21 = .ok (.aload_n 0, 1) := by decide +kernel
theorem dX6_putGrains_22 : decode cX6_putGrains 22 = .ok (.getfield 10, 3) := by decide +kernel
theorem dX6_putGrains_25 : decode cX6_putGrains 25 = .ok (.getfield 190, 3) := by decide +kernel
theorem dX6_putGrains_28 : decode cX6_putGrains 28 = .ok (.iload_n 1, 1) := by decide +kernel
theorem dX6_putGrains_29 : decode cX6_putGrains 29 = .ok (.invokevirtual 85, 3) := by decide +kernel
theorem dX6_putGrains_32 : decode cX6_putGrains 32 = .ok (.iload_n 2, 1) := by decide +kernel
theorem dX6_putGrains_33 : decode cX6_putGrains 33 = .ok (.iadd, 1) := by decide +kernel
theorem dX6_putGrains_34 : decode cX6_putGrains 34 = .ok (.istore_n 3, 1) := by decide +kernel
theorem dX6_putGrains_35 : decode cX6_putGrains 35 = .ok (.iload_n 3, 1) := by decide +kernel
theorem dX6_putGrains_36 : decode cX6_putGrains 36 = .ok (.bipush 99, 2) := by decide +kernel
theorem dX6_putGrains_38 : decode cX6_putGrains 38 = .ok (.if_icmp .le 11, 3) := by decide +kernel
theorem dX6_putGrains_41 : decode cX6_putGrains 41 = .ok (.aload_n 0, 1) := by decide +kernel
theorem dX6_putGrains_42 : decode cX6_putGrains 42 = .ok (.iconst 1, 1) := by decide +kernel
theorem dX6_putGrains_43 : decode cX6_putGrains 43 = .ok (.bipush 99, 2) := by decide +kernel
theorem dX6_putGrains_45 : decode cX6_putGrains 45 = .ok (.invokevirtual 330, 3) := by decide +kernel
theorem dX6_putGrains_48 : decode cX6_putGrains 48 = .ok (.ireturn, 1) := by decide +kernel
theorem dX6_putGrains_49 : decode cX6_putGrains 49 = .ok (.aload_n 0, 1) := by decide +kernel
theorem dX6_putGrains_50 : decode cX6_putGrains 50 = .ok (.getfield 10, 3) := by decide +kernel
theorem dX6_putGrains_53 : decode cX6_putGrains 53 = .ok (.getfield 190, 3) := by decide +kernel
theorem dX6_putGrains_56 : decode cX6_putGrains 56 = .ok (.iload_n 1, 1) := by decide +kernel
theorem dX6_putGrains_57 : decode cX6_putGrains 57 = .ok (.iload_n 3, 1) := by decide +kernel
theorem dX6_putGrains_58 : decode cX6_putGrains 58 = .ok (.invokevirtual 354, 3) := by decide +kernel
theorem dX6_putGrains_61 : decode cX6_putGrains 61 = .ok (.aload_n 0, 1) := by decide +kernel
theorem dX6_putGrains_62 : decode cX6_putGrains 62 = .ok (.getfield 10, 3) := by decide +kernel
theorem dX6_putGrains_65 : decode cX6_putGrains 65 = .ok (.dup, 1) := by decide +kernel
theorem dX6_putGrains_66 : decode cX6_putGrains 66 = .ok (.getfield 202, 3) := by decide +kernel
theorem dX6_putGrains_69 : decode cX6_putGrains 69 = .ok (.iload_n 2, 1) := by decide +kernel
theorem dX6_putGrains_70 : decode cX6_putGrains 70 = .ok (.iadd, 1) := by decide +kernel
theorem dX6_putGrains_71 : decode cX6_putGrains 71 = .ok (.putfield 202, 3) := by decide +kernel
theorem dX6_putGrains_74 : decode cX6_putGrains 74 = .ok (.iload_n 3, 1) := by decide +kernel
theorem dX6_putGrains_75 : decode cX6_putGrains 75 = .ok (.ireturn, 1) := by decide +kernel
set_option maxRecDepth 20000 in
theorem ggX6_passDays_X5_letDaysPass : GoodIn wsX6_passDays wsX5_letDaysPass := goodIn_ca (goodIn_r _ [6, 7, 8, 9, 10, 11, 12, 5, 13, 14, 15, 16, 17, 18, 19, 20, 21, 22, 23, 24, 25, 26, 27, 28, 29, 30, 31, 32, 33, 34, 35, 36, 37, 38, 39, 40, 41, 42, 43, 44, 45, 46, 47, 48, 49, 50, 51, 52, 53, 54, 55, 56, 57, 58, 59, 60, 61, 62, 63, 64, 65, 66, 67, 68, 69, 70, 83, 84, 85, 86, 87, 88, 89, 90, 91, 92, 93, 94, 95] (by decide +kernel) (by decide +kernel)) (goodIn_sub (fun _ h => List.mem_cons_of_mem _ (List.mem_append_right _ h)) (by decide +kernel))
set_option maxRecDepth 20000 in
theorem gX6_passDays_X5_letDaysPass : GoodIn wsX6_passDays (wsV RX6 184 RX5 yX5_letDaysPass wsX5_letDaysPass) := goodIn_app (goodIn_of _ (by decide +kernel)) ggX6_passDays_X5_letDaysPass
theorem dX6_passDays_0 : decode cX6_passDays 0 = .ok (.iload_n 1, 1) := by decide +kernel
theorem dX6_passDays_1 : decode cX6_passDays 1 = .ok (.iconst 1, 1) := by decide +kernel
theorem dX6_passDays_2 : decode cX6_passDays 2 = .ok (.if_icmp .lt 9, 3) := by decide +kernel
theorem dX6_passDays_5 : decode cX6_passDays 5 = .ok (.iload_n 1, 1) := by decide +kernel
theorem dX6_passDays_6 : decode cX6_passDays 6 = .ok (.bipush 60, 2) := by decide +kernel
theorem dX6_passDays_8 : decode cX6_passDays 8 = .ok (.if_icmp .le 6, 3) := by decide +kernel
theorem dX6_passDays_11 : decode cX6_passDays 11 = .ok (.bipush (-2), 2) := by decide +kernel
theorem dX6_passDays_13 : decode cX6_passDays 13 = .ok (.ireturn, 1) := by decide +kernel
theorem dX6_passDays_14 : decode cX6_passDays 14 = .ok (.aload_n 0, 1) := by decide +kernel
theorem dX6_passDays_15 : decode cX6_passDays 15 = .ok (.getfield 10, 3) := by decide +kernel
theorem dX6_passDays_18 : decode cX6_passDays 18 = .ok (.iload_n 1, 1) := by decide +kernel
theorem dX6_passDays_19 : decode cX6_passDays 19 = .ok (.invokevirtual 184, 3) := by decide +kernel
theorem dX6_passDays_22 : decode cX6_passDays 22 = .ok (.ireturn, 1) := by decide +kernel
theorem dX6_isField_0 : decode cX6_isField 0 = .ok (.iload_n 0, 1) := by decide +kernel
theorem dX6_isField_1 : decode cX6_isField 1 = .ok (.ifCond .lt 13, 3) := by decide +kernel
theorem dX6_isField_4 : decode cX6_isField 4 = .ok (.iload_n 0, 1) := by decide +kernel
theorem dX6_isField_5 : decode cX6_isField 5 = .ok (.bipush 16, 2) := by decide +kernel
theorem dX6_isField_7 : decode cX6_isField 7 = .ok (.if_icmp .ge 7, 3) := by decide +kernel
theorem dX6_isField_10 : decode cX6_isField 10 = .ok (.iconst 1, 1) := by decide +kernel
theorem dX6_isField_11 : decode cX6_isField 11 = .ok (.goto 4, 3) := by decide +kernel
theorem dX6_isField_14 : decode cX6_isField 14 = .ok (.iconst 0, 1) := by decide +kernel
theorem dX6_isField_15 : decode cX6_isField 15 = .ok (.ireturn, 1) := by decide +kernel
theorem dX6_canBeHeldFor_0 : decode cX6_canBeHeldFor 0 = .ok (.iload_n 0, 1) := by decide +kernel
theorem dX6_canBeHeldFor_1 : decode cX6_canBeHeldFor 1 = .ok (.ifCond .lt 13, 3) := by decide +kernel
theorem dX6_canBeHeldFor_4 : decode cX6_canBeHeldFor 4 = .ok (.iload_n 0, 1) := by decide +kernel
theorem dX6_canBeHeldFor_5 : decode cX6_canBeHeldFor 5 = .ok (.bipush 99, 2) := by decide +kernel
theorem dX6_canBeHeldFor_7 : decode cX6_canBeHeldFor 7 = .ok (.if_icmp .gt 7, 3) := by decide +kernel
theorem dX6_canBeHeldFor_10 : decode cX6_canBeHeldFor 10 = .ok (.iconst 1, 1) := by decide +kernel
theorem dX6_canBeHeldFor_11 : decode cX6_canBeHeldFor 11 = .ok (.goto 4, 3) := by decide +kernel
theorem dX6_canBeHeldFor_14 : decode cX6_canBeHeldFor 14 = .ok (.iconst 0, 1) := by decide +kernel
theorem dX6_canBeHeldFor_15 : decode cX6_canBeHeldFor 15 = .ok (.ireturn, 1) := by decide +kernel
theorem dX6_has_0 : decode cX6_has 0 = .ok (.iload_n 0, 1) := by decide +kernel
theorem dX6_has_1 : decode cX6_has 1 = .ok (.iload_n 1, 1) := by decide +kernel
theorem dX6_has_2 : decode cX6_has 2 = .ok (.ishr, 1) := by decide +kernel
theorem dX6_has_3 : decode cX6_has 3 = .ok (.iconst 1, 1) := by decide +kernel
theorem dX6_has_4 : decode cX6_has 4 = .ok (.iand, 1) := by decide +kernel
theorem dX6_has_5 : decode cX6_has 5 = .ok (.iconst 1, 1) := by decide +kernel
theorem dX6_has_6 : decode cX6_has 6 = .ok (.if_icmp .ne 7, 3) := by decide +kernel
theorem dX6_has_9 : decode cX6_has 9 = .ok (.iconst 1, 1) := by decide +kernel
theorem dX6_has_10 : decode cX6_has 10 = .ok (.goto 4, 3) := by decide +kernel
theorem dX6_has_13 : decode cX6_has 13 = .ok (.iconst 0, 1) := by decide +kernel
theorem dX6_has_14 : decode cX6_has 14 = .ok (.ireturn, 1) := by decide +kernel
set_option maxRecDepth 20000 in
theorem ggX6_lookOn_J9_floorMod_7cf53 : GoodIn wsX6_lookOn wsJ9_floorMod_7cf53 := goodIn_r _ [4] (by decide +kernel) (by decide +kernel)
set_option maxRecDepth 20000 in
theorem gX6_lookOn_J9_floorMod_7cf53 : GoodIn wsX6_lookOn (va_wsS RX6 366 yJ9_floorMod_7cf53 wsJ9_floorMod_7cf53) := goodIn_app (goodIn_of _ (by decide +kernel)) ggX6_lookOn_J9_floorMod_7cf53
theorem dX6_lookOn_0 : decode cX6_lookOn 0 = .ok (.bipush 7, 2) := by decide +kernel
theorem dX6_lookOn_2 : decode cX6_lookOn 2 = .ok (.iload_n 0, 1) := by decide +kernel
theorem dX6_lookOn_3 : decode cX6_lookOn 3 = .ok (.imul, 1) := by decide +kernel
theorem dX6_lookOn_4 : decode cX6_lookOn 4 = .ok (.bipush 16, 2) := by decide +kernel
theorem dX6_lookOn_6 : decode cX6_lookOn 6 = .ok (.invokestatic 366, 3) := by decide +kernel
theorem dX6_lookOn_9 : decode cX6_lookOn 9 = .ok (.ireturn, 1) := by decide +kernel
theorem dX6_distance_0 : decode cX6_distance 0 = .ok (.iload_n 0, 1) := by decide +kernel
theorem dX6_distance_1 : decode cX6_distance 1 = .ok (.iconst 4, 1) := by decide +kernel
theorem dX6_distance_2 : decode cX6_distance 2 = .ok (.idiv, 1) := by decide +kernel
theorem dX6_distance_3 : decode cX6_distance 3 = .ok (.iload_n 1, 1) := by decide +kernel
theorem dX6_distance_4 : decode cX6_distance 4 = .ok (.iconst 4, 1) := by decide +kernel
theorem dX6_distance_5 : decode cX6_distance 5 = .ok (.idiv, 1) := by decide +kernel
theorem dX6_distance_6 : decode cX6_distance 6 = .ok (.isub, 1) := by decide +kernel
theorem dX6_distance_7 : decode cX6_distance 7 = .ok (.invokestatic 371, 3) := by decide +kernel
theorem dX6_distance_10 : decode cX6_distance 10 = .ok (.iload_n 0, 1) := by decide +kernel
theorem dX6_distance_11 : decode cX6_distance 11 = .ok (.iconst 4, 1) := by decide +kernel
theorem dX6_distance_12 : decode cX6_distance 12 = .ok (.irem, 1) := by decide +kernel
theorem dX6_distance_13 : decode cX6_distance 13 = .ok (.iload_n 1, 1) := by decide +kernel
theorem dX6_distance_14 : decode cX6_distance 14 = .ok (.iconst 4, 1) := by decide +kernel
theorem dX6_distance_15 : decode cX6_distance 15 = .ok (.irem, 1) := by decide +kernel
theorem dX6_distance_16 : decode cX6_distance 16 = .ok (.isub, 1) := by decide +kernel
theorem dX6_distance_17 : decode cX6_distance 17 = .ok (.invokestatic 371, 3) := by decide +kernel
theorem dX6_distance_20 : decode cX6_distance 20 = .ok (.iadd, 1) := by decide +kernel
theorem dX6_distance_21 : decode cX6_distance 21 = .ok (.ireturn, 1) := by decide +kernel
theorem dX6_fieldsNear_0 : decode cX6_fieldsNear 0 = .ok (.iload_n 0, 1) := by decide +kernel
theorem dX6_fieldsNear_1 : decode cX6_fieldsNear 1 = .ok (.iconst 4, 1) := by decide +kernel
theorem dX6_fieldsNear_2 : decode cX6_fieldsNear 2 = .ok (.idiv, 1) := by decide +kernel
theorem dX6_fieldsNear_3 : decode cX6_fieldsNear 3 = .ok (.istore_n 1, 1) := by decide +kernel
theorem dX6_fieldsNear_4 : decode cX6_fieldsNear 4 = .ok (.iload_n 0, 1) := by decide +kernel
theorem dX6_fieldsNear_5 : decode cX6_fieldsNear 5 = .ok (.iconst 4, 1) := by decide +kernel
theorem dX6_fieldsNear_6 : decode cX6_fieldsNear 6 = .ok (.irem, 1) := by decide +kernel
theorem dX6_fieldsNear_7 : decode cX6_fieldsNear 7 = .ok (.istore_n 2, 1) := by decide +kernel
theorem dX6_fieldsNear_8 : decode cX6_fieldsNear 8 = .ok (.iconst 1, 1) := by decide +kernel
theorem dX6_fieldsNear_9 : decode cX6_fieldsNear 9 = .ok (.iload_n 0, 1) := by decide +kernel
theorem dX6_fieldsNear_10 : decode cX6_fieldsNear 10 = .ok (.ishl, 1) := by decide +kernel
theorem dX6_fieldsNear_11 : decode cX6_fieldsNear 11 = .ok (.istore_n 3, 1) := by decide +kernel
theorem dX6_fieldsNear_12 : decode cX6_fieldsNear 12 = .ok (.iload_n 1, 1) := by decide +kernel
theorem dX6_fieldsNear_13 : decode cX6_fieldsNear 13 = .ok (.ifCond .le 11, 3) := by decide +kernel
theorem dX6_fieldsNear_16 : decode cX6_fieldsNear 16 = .ok (.iload_n 3, 1) := by decide +kernel
theorem dX6_fieldsNear_17 : decode cX6_fieldsNear 17 = .ok (.iconst 1, 1) := by decide +kernel
theorem dX6_fieldsNear_18 : decode cX6_fieldsNear 18 = .ok (.iload_n 0, 1) := by decide +kernel
theorem dX6_fieldsNear_19 : decode cX6_fieldsNear 19 = .ok (.iconst 4, 1) := by decide +kernel
theorem dX6_fieldsNear_20 : decode cX6_fieldsNear 20 = .ok (.isub, 1) := by decide +kernel
theorem dX6_fieldsNear_21 : decode cX6_fieldsNear 21 = .ok (.ishl, 1) := by decide +kernel
theorem dX6_fieldsNear_22 : decode cX6_fieldsNear 22 = .ok (.ior, 1) := by decide +kernel
theorem dX6_fieldsNear_23 : decode cX6_fieldsNear 23 = .ok (.istore_n 3, 1) := by decide +kernel
theorem dX6_fieldsNear_24 : decode cX6_fieldsNear 24 = .ok (.iload_n 1, 1) := by decide +kernel
theorem dX6_fieldsNear_25 : decode cX6_fieldsNear 25 = .ok (.iconst 3, 1) := by decide +kernel
theorem dX6_fieldsNear_26 : decode cX6_fieldsNear 26 = .ok (.if_icmp .ge 11, 3) := by decide +kernel
theorem dX6_fieldsNear_29 : decode cX6_fieldsNear 29 = .ok (.iload_n 3, 1) := by decide +kernel
theorem dX6_fieldsNear_30 : decode cX6_fieldsNear 30 = .ok (.iconst 1, 1) := by decide +kernel
theorem dX6_fieldsNear_31 : decode cX6_fieldsNear 31 = .ok (.iload_n 0, 1) := by decide +kernel
theorem dX6_fieldsNear_32 : decode cX6_fieldsNear 32 = .ok (.iconst 4, 1) := by decide +kernel
theorem dX6_fieldsNear_33 : decode cX6_fieldsNear 33 = .ok (.iadd, 1) := by decide +kernel
theorem dX6_fieldsNear_34 : decode cX6_fieldsNear 34 = .ok (.ishl, 1) := by decide +kernel
theorem dX6_fieldsNear_35 : decode cX6_fieldsNear 35 = .ok (.ior, 1) := by decide +kernel
theorem dX6_fieldsNear_36 : decode cX6_fieldsNear 36 = .ok (.istore_n 3, 1) := by decide +kernel
theorem dX6_fieldsNear_37 : decode cX6_fieldsNear 37 = .ok (.iload_n 2, 1) := by decide +kernel
theorem dX6_fieldsNear_38 : decode cX6_fieldsNear 38 = .ok (.ifCond .le 11, 3) := by decide +kernel
theorem dX6_fieldsNear_41 : decode cX6_fieldsNear 41 = .ok (.iload_n 3, 1) := by decide +kernel
theorem dX6_fieldsNear_42 : decode cX6_fieldsNear 42 = .ok (.iconst 1, 1) := by decide +kernel
theorem dX6_fieldsNear_43 : decode cX6_fieldsNear 43 = .ok (.iload_n 0, 1) := by decide +kernel
theorem dX6_fieldsNear_44 : decode cX6_fieldsNear 44 = .ok (.iconst 1, 1) := by decide +kernel
theorem dX6_fieldsNear_45 : decode cX6_fieldsNear 45 = .ok (.isub, 1) := by decide +kernel
theorem dX6_fieldsNear_46 : decode cX6_fieldsNear 46 = .ok (.ishl, 1) := by decide +kernel
theorem dX6_fieldsNear_47 : decode cX6_fieldsNear 47 = .ok (.ior, 1) := by decide +kernel
theorem dX6_fieldsNear_48 : decode cX6_fieldsNear 48 = .ok (.istore_n 3, 1) := by decide +kernel
theorem dX6_fieldsNear_49 : decode cX6_fieldsNear 49 = .ok (.iload_n 2, 1) := by decide +kernel
theorem dX6_fieldsNear_50 : decode cX6_fieldsNear 50 = .ok (.iconst 3, 1) := by decide +kernel
theorem dX6_fieldsNear_51 : decode cX6_fieldsNear 51 = .ok (.if_icmp .ge 11, 3) := by decide +kernel
theorem dX6_fieldsNear_54 : decode cX6_fieldsNear 54 = .ok (.iload_n 3, 1) := by decide +kernel
theorem dX6_fieldsNear_55 : decode cX6_fieldsNear 55 = .ok (.iconst 1, 1) := by decide +kernel
theorem dX6_fieldsNear_56 : decode cX6_fieldsNear 56 = .ok (.iload_n 0, 1) := by decide +kernel
theorem dX6_fieldsNear_57 : decode cX6_fieldsNear 57 = .ok (.iconst 1, 1) := by decide +kernel
theorem dX6_fieldsNear_58 : decode cX6_fieldsNear 58 = .ok (.iadd, 1) := by decide +kernel
theorem dX6_fieldsNear_59 : decode cX6_fieldsNear 59 = .ok (.ishl, 1) := by decide +kernel
theorem dX6_fieldsNear_60 : decode cX6_fieldsNear 60 = .ok (.ior, 1) := by decide +kernel
theorem dX6_fieldsNear_61 : decode cX6_fieldsNear 61 = .ok (.istore_n 3, 1) := by decide +kernel
theorem dX6_fieldsNear_62 : decode cX6_fieldsNear 62 = .ok (.iload_n 3, 1) := by decide +kernel
theorem dX6_fieldsNear_63 : decode cX6_fieldsNear 63 = .ok (.ireturn, 1) := by decide +kernel
