set_option maxRecDepth 20000 in
theorem ggX1_init_X4_init : GoodIn wsX1_init wsX4_init := goodIn_r _ [13, 14, 2, 3, 15, 16, 17, 18, 19, 20, 21] (by decide +kernel) (by decide +kernel)
set_option maxRecDepth 20000 in
theorem gX1_init_X4_init : GoodIn wsX1_init (wsX4_init) := ggX1_init_X4_init
theorem dX1_init_0 : decode cX1_init 0 = .ok (.aload_n 0, 1) := by decide +kernel
theorem dX1_init_1 : decode cX1_init 1 = .ok (.invokespecial 3, 3) := by decide +kernel
theorem dX1_init_4 : decode cX1_init 4 = .ok (.aload_n 0, 1) := by decide +kernel
theorem dX1_init_5 : decode cX1_init 5 = .ok (.new 9, 3) := by decide +kernel
theorem dX1_init_8 : decode cX1_init 8 = .ok (.dup, 1) := by decide +kernel
theorem dX1_init_9 : decode cX1_init 9 = .ok (.bipush 60, 2) := by decide +kernel
theorem dX1_init_11 : decode cX1_init 11 = .ok (.invokespecial 11, 3) := by decide +kernel
theorem dX1_init_14 : decode cX1_init 14 = .ok (.putfield 14, 3) := by decide +kernel
theorem dX1_init_17 : decode cX1_init 17 = .ok (.aload_n 0, 1) := by decide +kernel
theorem dX1_init_18 : decode cX1_init 18 = .ok (.getstatic 20, 3) := by decide +kernel
theorem dX1_init_21 : decode cX1_init 21 = .ok (.putfield 26, 3) := by decide +kernel
theorem dX1_init_24 : decode cX1_init 24 = .ok (.aload_n 0, 1) := by decide +kernel
theorem dX1_init_25 : decode cX1_init 25 = .ok (.new 9, 3) := by decide +kernel
theorem dX1_init_28 : decode cX1_init 28 = .ok (.dup, 1) := by decide +kernel
theorem dX1_init_29 : decode cX1_init 29 = .ok (.iconst 3, 1) := by decide +kernel
theorem dX1_init_30 : decode cX1_init 30 = .ok (.invokespecial 11, 3) := by decide +kernel
theorem dX1_init_33 : decode cX1_init 33 = .ok (.putfield 29, 3) := by decide +kernel
theorem dX1_init_36 : decode cX1_init 36 = .ok (.return_, 1) := by decide +kernel
set_option maxRecDepth 20000 in
theorem ggX1_append_X4_set : GoodIn wsX1_append wsX4_set := goodIn_ca (goodIn_r _ [7, 8, 14] (by decide +kernel) (by decide +kernel)) (goodIn_sub (fun _ h => List.mem_cons_of_mem _ (List.mem_append_right _ h)) (by decide +kernel))
set_option maxRecDepth 20000 in
theorem gX1_append_X4_set : GoodIn wsX1_append (wsV RX1 36 RX4 yX4_set wsX4_set) := goodIn_app (goodIn_of _ (by decide +kernel)) ggX1_append_X4_set
theorem dX1_append_0 : decode cX1_append 0 = .ok (.aload_n 0, 1) := by decide +kernel
theorem dX1_append_1 : decode cX1_append 1 = .ok (.getfield 14, 3) := by decide +kernel
theorem dX1_append_4 : decode cX1_append 4 = .ok (.aload_n 0, 1) := by decide +kernel
theorem dX1_append_5 : decode cX1_append 5 = .ok (.getfield 32, 3) := by decide +kernel
theorem dX1_append_8 : decode cX1_append 8 = .ok (.iload_n 1, 1) := by decide +kernel
theorem dX1_append_9 : decode cX1_append 9 = .ok (.invokevirtual 36, 3) := by decide +kernel
theorem dX1_append_12 : decode cX1_append 12 = .ok (.aload_n 0, 1) := by decide +kernel
theorem dX1_append_13 : decode cX1_append 13 = .ok (.dup, 1) := by decide +kernel
theorem dX1_append_14 : decode cX1_append 14 = .ok (.getfield 32, 3) := by decide +kernel
theorem dX1_append_17 : decode cX1_append 17 = .ok (.iconst 1, 1) := by decide +kernel
theorem dX1_append_18 : decode cX1_append 18 = .ok (.iadd, 1) := by decide +kernel
theorem dX1_append_19 : decode cX1_append 19 = .ok (.putfield 32, 3) := by decide +kernel
theorem dX1_append_22 : decode cX1_append 22 = .ok (.aload_n 0, 1) := by decide +kernel
theorem dX1_append_23 : decode cX1_append 23 = .ok (.getfield 32, 3) := by decide +kernel
theorem dX1_append_26 : decode cX1_append 26 = .ok (.ireturn, 1) := by decide +kernel
theorem dX1_clear_0 : decode cX1_clear 0 = .ok (.aload_n 0, 1) := by decide +kernel
theorem dX1_clear_1 : decode cX1_clear 1 = .ok (.iconst 0, 1) := by decide +kernel
theorem dX1_clear_2 : decode cX1_clear 2 = .ok (.putfield 32, 3) := by decide +kernel
theorem dX1_clear_5 : decode cX1_clear 5 = .ok (.return_, 1) := by decide +kernel
theorem dX1_rewind_0 : decode cX1_rewind 0 = .ok (.aload_n 0, 1) := by decide +kernel
theorem dX1_rewind_1 : decode cX1_rewind 1 = .ok (.iconst 0, 1) := by decide +kernel
theorem dX1_rewind_2 : decode cX1_rewind 2 = .ok (.putfield 40, 3) := by decide +kernel
theorem dX1_rewind_5 : decode cX1_rewind 5 = .ok (.return_, 1) := by decide +kernel
set_option maxRecDepth 20000 in
theorem ggX1_countCommands_X1_rewind : GoodIn wsX1_countCommands wsX1_rewind := goodIn_r _ [7, 1, 102, 103, 104, 105, 106] (by decide +kernel) (by decide +kernel)
set_option maxRecDepth 20000 in
theorem gX1_countCommands_X1_rewind : GoodIn wsX1_countCommands (wsV RX1 43 RX1 yX1_rewind wsX1_rewind) := goodIn_app (goodIn_of _ (by decide +kernel)) ggX1_countCommands_X1_rewind
set_option maxRecDepth 20000 in
theorem ggX1_countCommands_X1_readCommand : GoodIn wsX1_countCommands wsX1_readCommand := goodIn_ca (goodIn_r _ [11, 1, 12, 13, 14, 6, 15, 16, 17, 18, 19, 2, 20, 21, 22, 23, 24, 25, 26, 27, 28, 29, 30, 31, 32, 33, 34, 35, 36, 37, 38, 39, 40, 41, 42, 43, 44, 45, 46, 47, 48, 49, 50, 51, 52, 53, 54, 55, 56, 57, 58, 59, 60, 61, 62, 63, 64, 65, 66, 67, 68, 69, 70, 71, 72, 73, 74, 75, 76, 77, 78, 79, 80, 81, 82, 83, 84, 85, 86, 87, 88, 89, 90, 91, 92, 93, 94, 95, 96, 97, 98, 99, 100, 101, 102, 103, 104, 105, 106, 107, 108, 109, 110, 111] (by decide +kernel) (by decide +kernel)) (goodIn_sub (fun _ h => List.mem_cons_of_mem _ (List.mem_append_right _ h)) (by decide +kernel))
set_option maxRecDepth 20000 in
theorem gX1_countCommands_X1_readCommand : GoodIn wsX1_countCommands (wsV RX1 46 RX1 yX1_readCommand wsX1_readCommand) := goodIn_app (goodIn_of _ (by decide +kernel)) ggX1_countCommands_X1_readCommand
theorem dX1_countCommands_0 : decode cX1_countCommands 0 = .ok (.aload_n 0, 1) := by decide +kernel
theorem dX1_countCommands_1 : decode cX1_countCommands 1 = .ok (.invokevirtual 43, 3) := by decide +kernel
theorem dX1_countCommands_4 : decode cX1_countCommands 4 = .ok (.iconst 1, 1) := by decide +kernel
theorem dX1_countCommands_5 : decode cX1_countCommands 5 = .ok (.istore_n 1, 1) := by decide +kernel
theorem dX1_countCommands_6 : decode cX1_countCommands 6 = .ok (.iload_n 1, 1) := by decide +kernel
theorem dX1_countCommands_7 : decode cX1_countCommands 7 = .ok (.bipush 60, 2) := by decide +kernel
theorem dX1_countCommands_9 : decode cX1_countCommands 9 = .ok (.if_icmp .gt 31, 3) := by decide +kernel
theorem dX1_countCommands_12 : decode cX1_countCommands 12 = .ok (.aload_n 0, 1) := by decide +kernel
theorem dX1_countCommands_13 : decode cX1_countCommands 13 = .ok (.invokevirtual 46, 3) := by decide +kernel
theorem dX1_countCommands_16 : decode cX1_countCommands 16 = .ok (.ifCond .ne 5, 3) := by decide +kernel
theorem dX1_countCommands_19 : decode cX1_countCommands 19 = .ok (.iconst (-1), 1) := by decide +kernel
theorem dX1_countCommands_20 : decode cX1_countCommands 20 = .ok (.ireturn, 1) := by decide +kernel
theorem dX1_countCommands_21 : decode cX1_countCommands 21 = .ok (.aload_n 0, 1) := by decide +kernel
theorem dX1_countCommands_22 : decode cX1_countCommands 22 = .ok (.getfield 40, 3) := by decide +kernel
theorem dX1_countCommands_25 : decode cX1_countCommands 25 = .ok (.aload_n 0, 1) := by decide +kernel
theorem dX1_countCommands_26 : decode cX1_countCommands 26 = .ok (.getfield 32, 3) := by decide +kernel
theorem dX1_countCommands_29 : decode cX1_countCommands 29 = .ok (.if_icmp .ne 5, 3) := by decide +kernel
theorem dX1_countCommands_32 : decode cX1_countCommands 32 = .ok (.iload_n 1, 1) := by decide +kernel
theorem dX1_countCommands_33 : decode cX1_countCommands 33 = .ok (.ireturn, 1) := by decide +kernel
theorem dX1_countCommands_34 : decode cX1_countCommands 34 = .ok (.iinc 1 1, 3) := by decide +kernel
theorem dX1_countCommands_37 : decode cX1_countCommands 37 = .ok (.goto (-31), 3) := by decide +kernel
theorem dX1_countCommands_40 : decode cX1_countCommands 40 = .ok (.iconst (-1), 1) := by decide +kernel
theorem dX1_countCommands_41 : decode cX1_countCommands 41 = .ok (.ireturn, 1) := by decide +kernel
set_option maxRecDepth 20000 in
theorem ggX1_readCommand_X1_readSign : GoodIn wsX1_readCommand wsX1_readSign := goodIn_ca (goodIn_r _ [6, 1, 7, 8, 9, 5, 10, 11, 12, 13, 14, 15, 16, 17, 18, 94, 95, 96, 97, 98, 99] (by decide +kernel) (by decide +kernel)) (goodIn_sub (fun _ h => List.mem_cons_of_mem _ (List.mem_append_right _ h)) (by decide +kernel))
set_option maxRecDepth 20000 in
theorem gX1_readCommand_X1_readSign : GoodIn wsX1_readCommand (wsV RX1 50 RX1 yX1_readSign wsX1_readSign) := goodIn_app (goodIn_of _ (by decide +kernel)) ggX1_readCommand_X1_readSign
set_option maxRecDepth 20000 in
theorem ggX1_readCommand_X1_readWord : GoodIn wsX1_readCommand wsX1_readWord := goodIn_ca (goodIn_r _ [22, 23, 1, 24, 25, 26, 27, 28, 29, 30, 5, 31, 32, 33, 34, 35, 36, 37, 38, 39, 40, 41, 42, 43, 7, 8, 9, 10, 11, 12, 13, 14, 15, 16, 17, 18, 44, 45, 46, 47, 48, 49, 50, 51, 52, 53, 54, 55, 56, 57, 58, 59, 60, 61, 62, 63, 64, 65, 66, 67, 68, 69, 70, 71, 72, 73, 74, 75, 76, 77, 78, 79, 80, 94, 95, 96, 97, 98, 100, 101, 102, 103, 99] (by decide +kernel) (by decide +kernel)) (goodIn_sub (fun _ h => List.mem_cons_of_mem _ (List.mem_append_right _ h)) (by decide +kernel))
set_option maxRecDepth 20000 in
theorem gX1_readCommand_X1_readWord : GoodIn wsX1_readCommand (wsV RX1 54 RX1 yX1_readWord wsX1_readWord) := goodIn_app (goodIn_of _ (by decide +kernel)) ggX1_readCommand_X1_readWord
set_option maxRecDepth 20000 in
theorem ggX1_readCommand_X1_readParameters : GoodIn wsX1_readCommand wsX1_readParameters := goodIn_ca (goodIn_r _ [84, 23, 85, 32, 33, 34, 35, 36, 37, 38, 39, 40, 41, 42, 43, 44, 45, 46, 47, 48, 49, 50, 51, 52, 53, 54, 55, 56, 57, 58, 59, 60, 61, 62, 63, 64, 65, 66, 67, 68, 69, 70, 71, 72, 73, 74, 75, 76, 77, 78, 79, 80, 86, 87, 88, 5, 89, 1, 7, 8, 9, 10, 11, 12, 13, 14, 15, 16, 17, 18, 90, 91, 92, 93, 2, 3, 4, 6, 94, 95, 96, 97, 98, 100, 101, 102, 103, 99] (by decide +kernel) (by decide +kernel)) (goodIn_sub (fun _ h => List.mem_cons_of_mem _ (List.mem_append_right _ h)) (by decide +kernel))
set_option maxRecDepth 20000 in
theorem gX1_readCommand_X1_readParameters : GoodIn wsX1_readCommand (wsV RX1 57 RX1 yX1_readParameters wsX1_readParameters) := goodIn_app (goodIn_of _ (by decide +kernel)) ggX1_readCommand_X1_readParameters
theorem dX1_readCommand_0 : decode cX1_readCommand 0 = .ok (.aload_n 0, 1) := by decide +kernel
theorem dX1_readCommand_1 : decode cX1_readCommand 1 = .ok (.getfield 40, 3) := by decide +kernel
theorem dX1_readCommand_4 : decode cX1_readCommand 4 = .ok (.ifCond .eq 12, 3) := by decide +kernel
theorem dX1_readCommand_7 : decode cX1_readCommand 7 = .ok (.aload_n 0, 1) := by decide +kernel
theorem dX1_readCommand_8 : decode cX1_readCommand 8 = .ok (.bipush 59, 2) := by decide +kernel
theorem dX1_readCommand_10 : decode cX1_readCommand 10 = .ok (.invokevirtual 50, 3) := by decide +kernel
theorem dX1_readCommand_13 : decode cX1_readCommand 13 = .ok (.ifCond .eq 21, 3) := by decide +kernel
theorem dX1_readCommand_16 : decode cX1_readCommand 16 = .ok (.aload_n 0, 1) := by decide +kernel
theorem dX1_readCommand_17 : decode cX1_readCommand 17 = .ok (.invokevirtual 54, 3) := by decide +kernel
theorem dX1_readCommand_20 : decode cX1_readCommand 20 = .ok (.ifCond .eq 14, 3) := by decide +kernel
theorem dX1_readCommand_23 : decode cX1_readCommand 23 = .ok (.aload_n 0, 1) := by decide +kernel
theorem dX1_readCommand_24 : decode cX1_readCommand 24 = .ok (.invokevirtual 57, 3) := by decide +kernel
theorem dX1_readCommand_27 : decode cX1_readCommand 27 = .ok (.ifCond .eq 7, 3) := by decide +kernel
theorem dX1_readCommand_30 : decode cX1_readCommand 30 = .ok (.iconst 1, 1) := by decide +kernel
theorem dX1_readCommand_31 : decode cX1_readCommand 31 = .ok (.goto 4, 3) := by decide +kernel
theorem dX1_readCommand_34 : decode cX1_readCommand 34 = .ok (.iconst 0, 1) := by decide +kernel
theorem dX1_readCommand_35 : decode cX1_readCommand 35 = .ok (.ireturn, 1) := by decide +kernel
set_option maxRecDepth 20000 in
theorem ggX1_readWord_X1_countMatching : GoodIn wsX1_readWord wsX1_countMatching := goodIn_ca (goodIn_r _ [11, 2, 12, 13, 14, 15, 16, 17, 18, 19, 20, 21, 22, 23, 24, 25, 26, 10, 27, 28, 29, 30, 31, 32, 33, 34, 35, 36, 37, 38, 39, 40, 41, 42, 43, 44, 45, 46, 47, 48, 49, 50, 51, 52, 53, 54, 55, 56, 57, 58, 59, 60, 61, 62, 63, 64, 65, 66, 67, 68, 69, 70, 71, 72, 73, 74, 75, 76, 77, 78, 79, 80, 81, 82] (by decide +kernel) (by decide +kernel)) (goodIn_sub (fun _ h => List.mem_cons_of_mem _ (List.mem_append_right _ h)) (by decide +kernel))
set_option maxRecDepth 20000 in
theorem gX1_readWord_X1_countMatching : GoodIn wsX1_readWord (wsV RX1 68 RX1 yX1_countMatching wsX1_countMatching) := goodIn_app (goodIn_of _ (by decide +kernel)) ggX1_readWord_X1_countMatching
set_option maxRecDepth 20000 in
theorem ggX1_readWord_J0_length_8abf5 : GoodIn wsX1_readWord wsJ0_length_8abf5 := goodIn_r _ [16, 17, 18, 19, 20, 15, 21, 22, 23, 78, 79, 80, 81] (by decide +kernel) (by decide +kernel)
set_option maxRecDepth 20000 in
theorem gX1_readWord_J0_length_8abf5 : GoodIn wsX1_readWord (wsV RX1 72 RJ0 yJ0_length_8abf5 wsJ0_length_8abf5) := goodIn_app (goodIn_of _ (by decide +kernel)) ggX1_readWord_J0_length_8abf5
theorem dX1_readWord_0 : decode cX1_readWord 0 = .ok (.iconst 0, 1) := by decide +kernel
theorem dX1_readWord_1 : decode cX1_readWord 1 = .ok (.istore_n 1, 1) := by decide +kernel
theorem dX1_readWord_2 : decode cX1_readWord 2 = .ok (.iconst 0, 1) := by decide +kernel
theorem dX1_readWord_3 : decode cX1_readWord 3 = .ok (.istore_n 2, 1) := by decide +kernel
theorem dX1_readWord_4 : decode cX1_readWord 4 = .ok (.iload_n 2, 1) := by decide +kernel
theorem dX1_readWord_5 : decode cX1_readWord 5 = .ok (.getstatic 60, 3) := by decide +kernel
theorem dX1_readWord_8 : decode cX1_readWord 8 = .ok (.arraylength, 1) := by decide +kernel
theorem dX1_readWord_9 : decode cX1_readWord 9 = .ok (.if_icmp .ge 62, 3) := by decide +kernel
theorem dX1_readWord_12 : decode cX1_readWord 12 = .ok (.getstatic 60, 3) := by decide +kernel
theorem dX1_readWord_15 : decode cX1_readWord 15 = .ok (.iload_n 2, 1) := by decide +kernel
theorem dX1_readWord_16 : decode cX1_readWord 16 = .ok (.aaload, 1) := by decide +kernel
theorem dX1_readWord_17 : decode cX1_readWord 17 = .ok (.astore_n 3, 1) := by decide +kernel
theorem dX1_readWord_18 : decode cX1_readWord 18 = .ok (.aload_n 0, 1) := by decide +kernel
theorem dX1_readWord_19 : decode cX1_readWord 19 = .ok (.aload_n 3, 1) := by decide +kernel
theorem dX1_readWord_20 : decode cX1_readWord 20 = .ok (.getfield 64, 3) := by decide +kernel
theorem dX1_readWord_23 : decode cX1_readWord 23 = .ok (.invokevirtual 68, 3) := by decide +kernel
theorem dX1_readWord_26 : decode cX1_readWord 26 = .ok (.istore 4, 2) := by decide +kernel
theorem dX1_readWord_28 : decode cX1_readWord 28 = .ok (.iload 4, 2) := by decide +kernel
theorem dX1_readWord_30 : decode cX1_readWord 30 = .ok (.aload_n 3, 1) := by decide +kernel
theorem dX1_readWord_31 : decode cX1_readWord 31 = .ok (.getfield 64, 3) := by decide +kernel
theorem dX1_readWord_34 : decode cX1_readWord 34 = .ok (.invokevirtual 72, 3) := by decide +kernel
theorem dX1_readWord_37 : decode cX1_readWord 37 = .ok (.if_icmp .ne 21, 3) := by decide +kernel
theorem dX1_readWord_40 : decode cX1_readWord 40 = .ok (.aload_n 0, 1) := by decide +kernel
theorem dX1_readWord_41 : decode cX1_readWord 41 = .ok (.aload_n 3, 1) := by decide +kernel
theorem dX1_readWord_42 : decode cX1_readWord 42 = .ok (.putfield 26, 3) := by decide +kernel
theorem dX1_readWord_45 : decode cX1_readWord 45 = .ok (.aload_n 0, 1) := by decide +kernel
theorem dX1_readWord_46 : decode cX1_readWord 46 = .ok (.dup, 1) := by decide +kernel
theorem dX1_readWord_47 : decode cX1_readWord 47 = .ok (.getfield 40, 3) := by decide +kernel
theorem dX1_readWord_50 : decode cX1_readWord 50 = .ok (.iload 4, 2) := by decide +kernel
theorem dX1_readWord_52 : decode cX1_readWord 52 = .ok (.iadd, 1) := by decide +kernel
theorem dX1_readWord_53 : decode cX1_readWord 53 = .ok (.putfield 40, 3) := by decide +kernel
theorem dX1_readWord_56 : decode cX1_readWord 56 = .ok (.iconst 1, 1) := by decide +kernel
theorem dX1_readWord_57 : decode cX1_readWord 57 = .ok (.ireturn, 1) := by decide +kernel
theorem dX1_readWord_58 : decode cX1_readWord 58 = .ok (.iload_n 1, 1) := by decide +kernel
theorem dX1_readWord_59 : decode cX1_readWord 59 = .ok (.iload 4, 2) := by decide +kernel
theorem dX1_readWord_61 : decode cX1_readWord 61 = .ok (.invokestatic 77, 3) := by decide +kernel
theorem dX1_readWord_64 : decode cX1_readWord 64 = .ok (.istore_n 1, 1) := by decide +kernel
theorem dX1_readWord_65 : decode cX1_readWord 65 = .ok (.iinc 2 1, 3) := by decide +kernel
theorem dX1_readWord_68 : decode cX1_readWord 68 = .ok (.goto (-64), 3) := by decide +kernel
theorem dX1_readWord_71 : decode cX1_readWord 71 = .ok (.aload_n 0, 1) := by decide +kernel
theorem dX1_readWord_72 : decode cX1_readWord 72 = .ok (.dup, 1) := by decide +kernel
theorem dX1_readWord_73 : decode cX1_readWord 73 = .ok (.getfield 40, 3) := by decide +kernel
theorem dX1_readWord_76 : decode cX1_readWord 76 = .ok (.iload_n 1, 1) := by decide +kernel
theorem dX1_readWord_77 : decode cX1_readWord 77 = .ok (.iadd, 1) := by decide +kernel
theorem dX1_readWord_78 : decode cX1_readWord 78 = .ok (.putfield 40, 3) := by decide +kernel
theorem dX1_readWord_81 : decode cX1_readWord 81 = .ok (.iconst 0, 1) := by decide +kernel
theorem dX1_readWord_82 : decode cX1_readWord 82 = .ok (.ireturn, 1) := by decide +kernel
set_option maxRecDepth 20000 in
theorem ggX1_countMatching_J0_length_8abf5 : GoodIn wsX1_countMatching wsJ0_length_8abf5 := goodIn_r _ [6, 7, 8, 9, 10, 5, 11, 12, 13, 69, 70, 71, 72] (by decide +kernel) (by decide +kernel)
set_option maxRecDepth 20000 in
theorem gX1_countMatching_J0_length_8abf5 : GoodIn wsX1_countMatching (wsV RX1 72 RJ0 yJ0_length_8abf5 wsJ0_length_8abf5) := goodIn_app (goodIn_of _ (by decide +kernel)) ggX1_countMatching_J0_length_8abf5
set_option maxRecDepth 20000 in
theorem ggX1_countMatching_X1_signAt : GoodIn wsX1_countMatching wsX1_signAt := goodIn_ca (goodIn_r _ [18, 19, 20, 21, 22, 23, 24, 25, 26, 64, 65, 66, 67, 68, 73] (by decide +kernel) (by decide +kernel)) (goodIn_sub (fun _ h => List.mem_cons_of_mem _ (List.mem_append_right _ h)) (by decide +kernel))
set_option maxRecDepth 20000 in
theorem gX1_countMatching_X1_signAt : GoodIn wsX1_countMatching (wsV RX1 83 RX1 yX1_signAt wsX1_signAt) := goodIn_app (goodIn_of _ (by decide +kernel)) ggX1_countMatching_X1_signAt
set_option maxRecDepth 20000 in
theorem ggX1_countMatching_J0_charAt_5068e : GoodIn wsX1_countMatching wsJ0_charAt_5068e := goodIn_r _ [30, 7, 31, 32, 33, 5, 34, 12, 13, 35, 36, 37, 38, 39, 40, 41, 42, 43, 44, 45, 46, 47, 48, 49, 50, 51, 52, 53, 54, 55, 56, 57, 58, 59, 60, 61, 62, 63, 69, 70, 71, 72] (by decide +kernel) (by decide +kernel)
set_option maxRecDepth 20000 in
theorem gX1_countMatching_J0_charAt_5068e : GoodIn wsX1_countMatching (wsV RX1 87 RJ0 yJ0_charAt_5068e wsJ0_charAt_5068e) := goodIn_app (goodIn_of _ (by decide +kernel)) ggX1_countMatching_J0_charAt_5068e
theorem dX1_countMatching_0 : decode cX1_countMatching 0 = .ok (.iconst 0, 1) := by decide +kernel
theorem dX1_countMatching_1 : decode cX1_countMatching 1 = .ok (.istore_n 2, 1) := by decide +kernel
theorem dX1_countMatching_2 : decode cX1_countMatching 2 = .ok (.iload_n 2, 1) := by decide +kernel
theorem dX1_countMatching_3 : decode cX1_countMatching 3 = .ok (.aload_n 1, 1) := by decide +kernel
theorem dX1_countMatching_4 : decode cX1_countMatching 4 = .ok (.invokevirtual 72, 3) := by decide +kernel
theorem dX1_countMatching_7 : decode cX1_countMatching 7 = .ok (.if_icmp .ge 29, 3) := by decide +kernel
theorem dX1_countMatching_10 : decode cX1_countMatching 10 = .ok (.aload_n 0, 1) := by decide +kernel
theorem dX1_countMatching_11 : decode cX1_countMatching 11 = .ok (.aload_n 0, 1) := by decide +kernel
theorem dX1_countMatching_12 : decode cX1_countMatching 12 = .ok (.getfield 40, 3) := by decide +kernel
theorem dX1_countMatching_15 : decode cX1_countMatching 15 = .ok (.iload_n 2, 1) := by decide +kernel
theorem dX1_countMatching_16 : decode cX1_countMatching 16 = .ok (.iadd, 1) := by decide +kernel
theorem dX1_countMatching_17 : decode cX1_countMatching 17 = .ok (.invokevirtual 83, 3) := by decide +kernel
theorem dX1_countMatching_20 : decode cX1_countMatching 20 = .ok (.aload_n 1, 1) := by decide +kernel
theorem dX1_countMatching_21 : decode cX1_countMatching 21 = .ok (.iload_n 2, 1) := by decide +kernel
theorem dX1_countMatching_22 : decode cX1_countMatching 22 = .ok (.invokevirtual 87, 3) := by decide +kernel
theorem dX1_countMatching_25 : decode cX1_countMatching 25 = .ok (.if_icmp .eq 5, 3) := by decide +kernel
theorem dX1_countMatching_28 : decode cX1_countMatching 28 = .ok (.iload_n 2, 1) := by decide +kernel
theorem dX1_countMatching_29 : decode cX1_countMatching 29 = .ok (.ireturn, 1) := by decide +kernel
theorem dX1_countMatching_30 : decode cX1_countMatching 30 = .ok (.iinc 2 1, 3) := by decide +kernel
theorem dX1_countMatching_33 : decode cX1_countMatching 33 = .ok (.goto (-31), 3) := by decide +kernel
theorem dX1_countMatching_36 : decode cX1_countMatching 36 = .ok (.aload_n 1, 1) := by decide +kernel
theorem dX1_countMatching_37 : decode cX1_countMatching 37 = .ok (.invokevirtual 72, 3) := by decide +kernel
theorem dX1_countMatching_40 : decode cX1_countMatching 40 = .ok (.ireturn, 1) := by decide +kernel
set_option maxRecDepth 20000 in
theorem ggX1_readParameters_J0_length_8abf5 : GoodIn wsX1_readParameters wsJ0_length_8abf5 := goodIn_r _ [7, 8, 9, 10, 11, 6, 12, 13, 14, 83, 84, 85, 86] (by decide +kernel) (by decide +kernel)
set_option maxRecDepth 20000 in
theorem gX1_readParameters_J0_length_8abf5 : GoodIn wsX1_readParameters (wsV RX1 72 RJ0 yJ0_length_8abf5 wsJ0_length_8abf5) := goodIn_app (goodIn_of _ (by decide +kernel)) ggX1_readParameters_J0_length_8abf5
set_option maxRecDepth 20000 in
theorem ggX1_readParameters_J0_charAt_5068e : GoodIn wsX1_readParameters wsJ0_charAt_5068e := goodIn_r _ [18, 8, 19, 20, 21, 6, 22, 13, 14, 23, 24, 25, 26, 27, 28, 29, 30, 31, 32, 33, 34, 35, 36, 37, 38, 39, 40, 41, 42, 43, 44, 45, 46, 47, 48, 49, 50, 51, 83, 84, 85, 86] (by decide +kernel) (by decide +kernel)
set_option maxRecDepth 20000 in
theorem gX1_readParameters_J0_charAt_5068e : GoodIn wsX1_readParameters (wsV RX1 87 RJ0 yJ0_charAt_5068e wsJ0_charAt_5068e) := goodIn_app (goodIn_of _ (by decide +kernel)) ggX1_readParameters_J0_charAt_5068e
set_option maxRecDepth 20000 in
theorem ggX1_readParameters_X1_readDigits : GoodIn wsX1_readParameters wsX1_readDigits := goodIn_ca (goodIn_r _ [56, 57, 58, 59, 60, 55, 61, 62, 63, 64, 65, 66, 67, 68, 69, 78, 79, 80, 81, 82, 87] (by decide +kernel) (by decide +kernel)) (goodIn_sub (fun _ h => List.mem_cons_of_mem _ (List.mem_append_right _ h)) (by decide +kernel))
set_option maxRecDepth 20000 in
theorem gX1_readParameters_X1_readDigits : GoodIn wsX1_readParameters (wsV RX1 94 RX1 yX1_readDigits wsX1_readDigits) := goodIn_app (goodIn_of _ (by decide +kernel)) ggX1_readParameters_X1_readDigits
set_option maxRecDepth 20000 in
theorem ggX1_readParameters_X4_set : GoodIn wsX1_readParameters wsX4_set := goodIn_ca (goodIn_r _ [73, 69, 87] (by decide +kernel) (by decide +kernel)) (goodIn_sub (fun _ h => List.mem_cons_of_mem _ (List.mem_append_right _ h)) (by decide +kernel))
set_option maxRecDepth 20000 in
theorem gX1_readParameters_X4_set : GoodIn wsX1_readParameters (wsV RX1 36 RX4 yX4_set wsX4_set) := goodIn_app (goodIn_of _ (by decide +kernel)) ggX1_readParameters_X4_set
set_option maxRecDepth 20000 in
theorem ggX1_readParameters_X1_readSign : GoodIn wsX1_readParameters wsX1_readSign := goodIn_ca (goodIn_r _ [77, 57, 58, 59, 60, 55, 61, 62, 63, 64, 65, 66, 67, 68, 69, 78, 79, 80, 81, 82, 87] (by decide +kernel) (by decide +kernel)) (goodIn_sub (fun _ h => List.mem_cons_of_mem _ (List.mem_append_right _ h)) (by decide +kernel))
set_option maxRecDepth 20000 in
theorem gX1_readParameters_X1_readSign : GoodIn wsX1_readParameters (wsV RX1 50 RX1 yX1_readSign wsX1_readSign) := goodIn_app (goodIn_of _ (by decide +kernel)) ggX1_readParameters_X1_readSign
theorem dX1_readParameters_0 : decode cX1_readParameters 0 = .ok (.iconst 0, 1) := by decide +kernel
theorem dX1_readParameters_1 : decode cX1_readParameters 1 = .ok (.istore_n 1, 1) := by decide +kernel
theorem dX1_readParameters_2 : decode cX1_readParameters 2 = .ok (.iconst 0, 1) := by decide +kernel
theorem dX1_readParameters_3 : decode cX1_readParameters 3 = .ok (.istore_n 2, 1) := by decide +kernel
theorem dX1_readParameters_4 : decode cX1_readParameters 4 = .ok (.iload_n 2, 1) := by decide +kernel
theorem dX1_readParameters_5 : decode cX1_readParameters 5 = .ok (.aload_n 0, 1) := by decide +kernel
theorem dX1_readParameters_6 : decode cX1_readParameters 6 = .ok (.getfield 26, 3) := by decide +kernel
theorem dX1_readParameters_9 : decode cX1_readParameters 9 = .ok (.getfield 91, 3) := by decide +kernel
theorem dX1_readParameters_12 : decode cX1_readParameters 12 = .ok (.invokevirtual 72, 3) := by decide +kernel
theorem dX1_readParameters_15 : decode cX1_readParameters 15 = .ok (.if_icmp .ge 84, 3) := by decide +kernel
theorem dX1_readParameters_18 : decode cX1_readParameters 18 = .ok (.aload_n 0, 1) := by decide +kernel
theorem dX1_readParameters_19 : decode cX1_readParameters 19 = .ok (.getfield 26, 3) := by decide +kernel
theorem dX1_readParameters_22 : decode cX1_readParameters 22 = .ok (.getfield 91, 3) := by decide +kernel
theorem dX1_readParameters_25 : decode cX1_readParameters 25 = .ok (.iload_n 2, 1) := by decide +kernel
theorem dX1_readParameters_26 : decode cX1_readParameters 26 = .ok (.invokevirtual 87, 3) := by decide +kernel
theorem dX1_readParameters_29 : decode cX1_readParameters 29 = .ok (.istore_n 3, 1) := by decide +kernel
theorem dX1_readParameters_30 : decode cX1_readParameters 30 = .ok (.iload_n 3, 1) := by decide +kernel
theorem dX1_readParameters_31 : decode cX1_readParameters 31 = .ok (.bipush 100, 2) := by decide +kernel
theorem dX1_readParameters_33 : decode cX1_readParameters 33 = .ok (.if_icmp .eq 9, 3) := by decide +kernel
theorem dX1_readParameters_36 : decode cX1_readParameters 36 = .ok (.iload_n 3, 1) := by decide +kernel
theorem dX1_readParameters_37 : decode cX1_readParameters 37 = .ok (.bipush 110, 2) := by decide +kernel
theorem dX1_readParameters_39 : decode cX1_readParameters 39 = .ok (.if_icmp .ne 44, 3) := by decide +kernel
theorem dX1_readParameters_42 : decode cX1_readParameters 42 = .ok (.aload_n 0, 1) := by decide +kernel
theorem dX1_readParameters_43 : decode cX1_readParameters 43 = .ok (.iload_n 3, 1) := by decide +kernel
theorem dX1_readParameters_44 : decode cX1_readParameters 44 = .ok (.bipush 100, 2) := by decide +kernel
theorem dX1_readParameters_46 : decode cX1_readParameters 46 = .ok (.if_icmp .ne 7, 3) := by decide +kernel
theorem dX1_readParameters_49 : decode cX1_readParameters 49 = .ok (.iconst 1, 1) := by decide +kernel
theorem dX1_readParameters_50 : decode cX1_readParameters 50 = .ok (.goto 4, 3) := by decide +kernel
theorem dX1_readParameters_53 : decode cX1_readParameters 53 = .ok (.iconst 2, 1) := by decide +kernel
theorem dX1_readParameters_54 : decode cX1_readParameters 54 = .ok (.invokevirtual 94, 3) := by decide +kernel
theorem dX1_readParameters_57 : decode cX1_readParameters 57 = .ok (.istore 4, 2) := by decide +kernel
theorem dX1_readParameters_59 : decode cX1_readParameters 59 = .ok (.iload 4, 2) := by decide +kernel
theorem dX1_readParameters_61 : decode cX1_readParameters 61 = .ok (.iconst (-1), 1) := by decide +kernel
theorem dX1_readParameters_62 : decode cX1_readParameters 62 = .ok (.if_icmp .ne 5, 3) := by decide +kernel
theorem dX1_readParameters_65 : decode cX1_readParameters 65 = .ok (.iconst 0, 1) := by decide +kernel
theorem dX1_readParameters_66 : decode cX1_readParameters 66 = .ok (.ireturn, 1) := by decide +kernel
theorem dX1_readParameters_67 : decode cX1_readParameters 67 = .ok (.aload_n 0, 1) := by decide +kernel
theorem dX1_readParameters_68 : decode cX1_readParameters 68 = .ok (.getfield 29, 3) := by decide +kernel
theorem dX1_readParameters_71 : decode cX1_readParameters 71 = .ok (.iload_n 1, 1) := by decide +kernel
theorem dX1_readParameters_72 : decode cX1_readParameters 72 = .ok (.iload 4, 2) := by decide +kernel
theorem dX1_readParameters_74 : decode cX1_readParameters 74 = .ok (.invokevirtual 36, 3) := by decide +kernel
theorem dX1_readParameters_77 : decode cX1_readParameters 77 = .ok (.iinc 1 1, 3) := by decide +kernel
theorem dX1_readParameters_80 : decode cX1_readParameters 80 = .ok (.goto 13, 3) := by decide +kernel
theorem dX1_readParameters_83 : decode cX1_readParameters 83 = .ok (.aload_n 0, 1) := by decide +kernel
theorem dX1_readParameters_84 : decode cX1_readParameters 84 = .ok (.iload_n 3, 1) := by decide +kernel
theorem dX1_readParameters_85 : decode cX1_readParameters 85 = .ok (.invokevirtual 50, 3) := by decide +kernel
theorem dX1_readParameters_88 : decode cX1_readParameters 88 = .ok (.ifCond .ne 5, 3) := by decide +kernel
theorem dX1_readParameters_91 : decode cX1_readParameters 91 = .ok (.iconst 0, 1) := by decide +kernel
theorem dX1_readParameters_92 : decode cX1_readParameters 92 = .ok (.ireturn, 1) := by decide +kernel
theorem dX1_readParameters_93 : decode cX1_readParameters 93 = .ok (.iinc 2 1, 3) := by decide +kernel
theorem dX1_readParameters_96 : decode cX1_readParameters 96 = .ok (.goto (-92), 3) := by decide +kernel
theorem dX1_readParameters_99 : decode cX1_readParameters 99 = .ok (.iconst 1, 1) := by decide +kernel
theorem dX1_readParameters_100 : decode cX1_readParameters 100 = .ok (.ireturn, 1) := by decide +kernel
set_option maxRecDepth 20000 in
theorem ggX1_readSign_X1_signAt : GoodIn wsX1_readSign wsX1_signAt := goodIn_ca (goodIn_r _ [6, 7, 8, 9, 10, 11, 12, 13, 14, 15, 16, 17, 18, 19, 20] (by decide +kernel) (by decide +kernel)) (goodIn_sub (fun _ h => List.mem_cons_of_mem _ (List.mem_append_right _ h)) (by decide +kernel))
set_option maxRecDepth 20000 in
theorem gX1_readSign_X1_signAt : GoodIn wsX1_readSign (wsV RX1 83 RX1 yX1_signAt wsX1_signAt) := goodIn_app (goodIn_of _ (by decide +kernel)) ggX1_readSign_X1_signAt
theorem dX1_readSign_0 : decode cX1_readSign 0 = .ok (.aload_n 0, 1) := by decide +kernel
theorem dX1_readSign_1 : decode cX1_readSign 1 = .ok (.aload_n 0, 1) := by decide +kernel
theorem dX1_readSign_2 : decode cX1_readSign 2 = .ok (.getfield 40, 3) := by decide +kernel
theorem dX1_readSign_5 : decode cX1_readSign 5 = .ok (.invokevirtual 83, 3) := by decide +kernel
theorem dX1_readSign_8 : decode cX1_readSign 8 = .ok (.iload_n 1, 1) := by decide +kernel
theorem dX1_readSign_9 : decode cX1_readSign 9 = .ok (.if_icmp .eq 5, 3) := by decide +kernel
theorem dX1_readSign_12 : decode cX1_readSign 12 = .ok (.iconst 0, 1) := by decide +kernel
theorem dX1_readSign_13 : decode cX1_readSign 13 = .ok (.ireturn, 1) := by decide +kernel
theorem dX1_readSign_14 : decode cX1_readSign 14 = .ok (.aload_n 0, 1) := by decide +kernel
theorem dX1_readSign_15 : decode cX1_readSign 15 = .ok (.dup, 1) := by decide +kernel
theorem dX1_readSign_16 : decode cX1_readSign 16 = .ok (.getfield 40, 3) := by decide +kernel
theorem dX1_readSign_19 : decode cX1_readSign 19 = .ok (.iconst 1, 1) := by decide +kernel
theorem dX1_readSign_20 : decode cX1_readSign 20 = .ok (.iadd, 1) := by decide +kernel
theorem dX1_readSign_21 : decode cX1_readSign 21 = .ok (.putfield 40, 3) := by decide +kernel
theorem dX1_readSign_24 : decode cX1_readSign 24 = .ok (.iconst 1, 1) := by decide +kernel
theorem dX1_readSign_25 : decode cX1_readSign 25 = .ok (.ireturn, 1) := by decide +kernel
set_option maxRecDepth 20000 in
theorem ggX1_readDigits_X1_signAt : GoodIn wsX1_readDigits wsX1_signAt := goodIn_ca (goodIn_r _ [6, 7, 8, 9, 10, 11, 12, 13, 14, 15, 16, 17, 18, 19, 20] (by decide +kernel) (by decide +kernel)) (goodIn_sub (fun _ h => List.mem_cons_of_mem _ (List.mem_append_right _ h)) (by decide +kernel))
set_option maxRecDepth 20000 in
theorem gX1_readDigits_X1_signAt : GoodIn wsX1_readDigits (wsV RX1 83 RX1 yX1_signAt wsX1_signAt) := goodIn_app (goodIn_of _ (by decide +kernel)) ggX1_readDigits_X1_signAt
theorem dX1_readDigits_0 : decode cX1_readDigits 0 = .ok (.iconst 0, 1) := by decide +kernel
theorem dX1_readDigits_1 : decode cX1_readDigits 1 = .ok (.istore_n 2, 1) := by decide +kernel
theorem dX1_readDigits_2 : decode cX1_readDigits 2 = .ok (.iconst 0, 1) := by decide +kernel
theorem dX1_readDigits_3 : decode cX1_readDigits 3 = .ok (.istore_n 3, 1) := by decide +kernel
theorem dX1_readDigits_4 : decode cX1_readDigits 4 = .ok (.iload_n 3, 1) := by decide +kernel
theorem dX1_readDigits_5 : decode cX1_readDigits 5 = .ok (.iload_n 1, 1) := by decide +kernel
theorem dX1_readDigits_6 : decode cX1_readDigits 6 = .ok (.if_icmp .ge 64, 3) := by decide +kernel
theorem dX1_readDigits_9 : decode cX1_readDigits 9 = .ok (.aload_n 0, 1) := by decide +kernel
theorem dX1_readDigits_10 : decode cX1_readDigits 10 = .ok (.aload_n 0, 1) := by decide +kernel
theorem dX1_readDigits_11 : decode cX1_readDigits 11 = .ok (.getfield 40, 3) := by decide +kernel
theorem dX1_readDigits_14 : decode cX1_readDigits 14 = .ok (.invokevirtual 83, 3) := by decide +kernel
theorem dX1_readDigits_17 : decode cX1_readDigits 17 = .ok (.istore 4, 2) := by decide +kernel
theorem dX1_readDigits_19 : decode cX1_readDigits 19 = .ok (.iload 4, 2) := by decide +kernel
theorem dX1_readDigits_21 : decode cX1_readDigits 21 = .ok (.bipush 48, 2) := by decide +kernel
theorem dX1_readDigits_23 : decode cX1_readDigits 23 = .ok (.if_icmp .lt 10, 3) := by decide +kernel
theorem dX1_readDigits_26 : decode cX1_readDigits 26 = .ok (.iload 4, 2) := by decide +kernel
theorem dX1_readDigits_28 : decode cX1_readDigits 28 = .ok (.bipush 57, 2) := by decide +kernel
theorem dX1_readDigits_30 : decode cX1_readDigits 30 = .ok (.if_icmp .le 13, 3) := by decide +kernel
theorem dX1_readDigits_33 : decode cX1_readDigits 33 = .ok (.iload_n 3, 1) := by decide +kernel
theorem dX1_readDigits_34 : decode cX1_readDigits 34 = .ok (.ifCond .ne 7, 3) := by decide +kernel
theorem dX1_readDigits_37 : decode cX1_readDigits 37 = .ok (.iconst (-1), 1) := by decide +kernel
theorem dX1_readDigits_38 : decode cX1_readDigits 38 = .ok (.goto 4, 3) := by decide +kernel
theorem dX1_readDigits_41 : decode cX1_readDigits 41 = .ok (.iload_n 2, 1) := by decide +kernel
theorem dX1_readDigits_42 : decode cX1_readDigits 42 = .ok (.ireturn, 1) := by decide +kernel
theorem dX1_readDigits_43 : decode cX1_readDigits 43 = .ok (.bipush 10, 2) := by decide +kernel
theorem dX1_readDigits_45 : decode cX1_readDigits 45 = .ok (.iload_n 2, 1) := by decide +kernel
theorem dX1_readDigits_46 : decode cX1_readDigits 46 = .ok (.imul, 1) := by decide +kernel
theorem dX1_readDigits_47 : decode cX1_readDigits 47 = .ok (.iload 4, 2) := by decide +kernel
theorem dX1_readDigits_49 : decode cX1_readDigits 49 = .ok (.bipush 48, 2) := by decide +kernel
theorem dX1_readDigits_51 : decode cX1_readDigits 51 = .ok (.isub, 1) := by decide +kernel
theorem dX1_readDigits_52 : decode cX1_readDigits 52 = .ok (.iadd, 1) := by decide +kernel
theorem dX1_readDigits_53 : decode cX1_readDigits 53 = .ok (.istore_n 2, 1) := by decide +kernel
theorem dX1_readDigits_54 : decode cX1_readDigits 54 = .ok (.aload_n 0, 1) := by decide +kernel
theorem dX1_readDigits_55 : decode cX1_readDigits 55 = .ok (.dup, 1) := by decide +kernel
theorem dX1_readDigits_56 : decode cX1_readDigits 56 = .ok (.getfield 40, 3) := by decide +kernel
theorem dX1_readDigits_59 : decode cX1_readDigits 59 = .ok (.iconst 1, 1) := by decide +kernel
theorem dX1_readDigits_60 : decode cX1_readDigits 60 = .ok (.iadd, 1) := by decide +kernel
theorem dX1_readDigits_61 : decode cX1_readDigits 61 = .ok (.putfield 40, 3) := by decide +kernel
theorem dX1_readDigits_64 : decode cX1_readDigits 64 = .ok (.iinc 3 1, 3) := by decide +kernel
theorem dX1_readDigits_67 : decode cX1_readDigits 67 = .ok (.goto (-63), 3) := by decide +kernel
theorem dX1_readDigits_70 : decode cX1_readDigits 70 = .ok (.iload_n 2, 1) := by decide +kernel
theorem dX1_readDigits_71 : decode cX1_readDigits 71 = .ok (.ireturn, 1) := by decide +kernel
set_option maxRecDepth 20000 in
theorem ggX1_signAt_X4_get : GoodIn wsX1_signAt wsX4_get := goodIn_ca (goodIn_r _ [7, 8, 14] (by decide +kernel) (by decide +kernel)) (goodIn_sub (fun _ h => List.mem_cons_of_mem _ (List.mem_append_right _ h)) (by decide +kernel))
set_option maxRecDepth 20000 in
theorem gX1_signAt_X4_get : GoodIn wsX1_signAt (wsV RX1 97 RX4 yX4_get wsX4_get) := goodIn_app (goodIn_of _ (by decide +kernel)) ggX1_signAt_X4_get
theorem dX1_signAt_0 : decode cX1_signAt 0 = .ok (.iload_n 1, 1) := by decide +kernel
theorem dX1_signAt_1 : decode cX1_signAt 1 = .ok (.aload_n 0, 1) := by decide +kernel
theorem dX1_signAt_2 : decode cX1_signAt 2 = .ok (.getfield 32, 3) := by decide +kernel
theorem dX1_signAt_5 : decode cX1_signAt 5 = .ok (.if_icmp .ge 14, 3) := by decide +kernel
theorem dX1_signAt_8 : decode cX1_signAt 8 = .ok (.aload_n 0, 1) := by decide +kernel
theorem dX1_signAt_9 : decode cX1_signAt 9 = .ok (.getfield 14, 3) := by decide +kernel
theorem dX1_signAt_12 : decode cX1_signAt 12 = .ok (.iload_n 1, 1) := by decide +kernel
theorem dX1_signAt_13 : decode cX1_signAt 13 = .ok (.invokevirtual 97, 3) := by decide +kernel
theorem dX1_signAt_16 : decode cX1_signAt 16 = .ok (.goto 4, 3) := by decide +kernel
theorem dX1_signAt_19 : decode cX1_signAt 19 = .ok (.iconst (-1), 1) := by decide +kernel
theorem dX1_signAt_20 : decode cX1_signAt 20 = .ok (.ireturn, 1) := by decide +kernel
set_option maxRecDepth 20000 in
theorem ggX2_init_X5_init : GoodIn wsX2_init wsX5_init := goodIn_ca (goodIn_r _ [10, 11, 2, 3, 12, 13, 14, 15, 16, 17, 18, 19, 20, 21, 22, 23, 24, 25, 26, 27, 28, 29, 30, 31, 32, 33, 34, 50, 38, 39, 40, 41, 42, 43, 44, 45, 46, 47, 48, 49] (by decide +kernel) (by decide +kernel)) (goodIn_sub (fun _ h => List.mem_cons_of_mem _ (List.mem_append_right _ h)) (by decide +kernel))
set_option maxRecDepth 20000 in
theorem gX2_init_X5_init : GoodIn wsX2_init (wsX5_init) := ggX2_init_X5_init
theorem dX2_init_0 : decode cX2_init 0 = .ok (.aload_n 0, 1) := by decide +kernel
theorem dX2_init_1 : decode cX2_init 1 = .ok (.invokespecial 3, 3) := by decide +kernel
theorem dX2_init_4 : decode cX2_init 4 = .ok (.aload_n 0, 1) := by decide +kernel
theorem dX2_init_5 : decode cX2_init 5 = .ok (.bipush 8, 2) := by decide +kernel
theorem dX2_init_7 : decode cX2_init 7 = .ok (.anewarray 9, 3) := by decide +kernel
theorem dX2_init_10 : decode cX2_init 10 = .ok (.putfield 11, 3) := by decide +kernel
theorem dX2_init_13 : decode cX2_init 13 = .ok (.iconst 0, 1) := by decide +kernel
theorem dX2_init_14 : decode cX2_init 14 = .ok (.istore_n 1, 1) := by decide +kernel
theorem dX2_init_15 : decode cX2_init 15 = .ok (.iload_n 1, 1) := by decide +kernel
theorem dX2_init_16 : decode cX2_init 16 = .ok (.aload_n 0, 1) := by decide +kernel
theorem dX2_init_17 : decode cX2_init 17 = .ok (.getfield 11, 3) := by decide +kernel
theorem dX2_init_20 : decode cX2_init 20 = .ok (.arraylength, 1) := by decide +kernel
theorem dX2_init_21 : decode cX2_init 21 = .ok (.if_icmp .ge 22, 3) := by decide +kernel
theorem dX2_init_24 : decode cX2_init 24 = .ok (.aload_n 0, 1) := by decide +kernel
theorem dX2_init_25 : decode cX2_init 25 = .ok (.getfield 11, 3) := by decide +kernel
theorem dX2_init_28 : decode cX2_init 28 = .ok (.iload_n 1, 1) := by decide +kernel
theorem dX2_init_29 : decode cX2_init 29 = .ok (.new 9, 3) := by decide +kernel
theorem dX2_init_32 : decode cX2_init 32 = .ok (.dup, 1) := by decide +kernel
theorem dX2_init_33 : decode cX2_init 33 = .ok (.invokespecial 17, 3) := by decide +kernel
theorem dX2_init_36 : decode cX2_init 36 = .ok (.aastore, 1) := by decide +kernel
theorem dX2_init_37 : decode cX2_init 37 = .ok (.iinc 1 1, 3) := by decide +kernel
theorem dX2_init_40 : decode cX2_init 40 = .ok (.goto (-25), 3) := by decide +kernel
theorem dX2_init_43 : decode cX2_init 43 = .ok (.return_, 1) := by decide +kernel
set_option maxRecDepth 20000 in
theorem ggX2_remember_J9_floorMod_7cf53 : GoodIn wsX2_remember wsJ9_floorMod_7cf53 := goodIn_r _ [6] (by decide +kernel) (by decide +kernel)
set_option maxRecDepth 20000 in
theorem gX2_remember_J9_floorMod_7cf53 : GoodIn wsX2_remember (va_wsS RX2 25 yJ9_floorMod_7cf53 wsJ9_floorMod_7cf53) := goodIn_app (goodIn_of _ (by decide +kernel)) ggX2_remember_J9_floorMod_7cf53
set_option maxRecDepth 20000 in
theorem ggX2_remember_X2_slotAt : GoodIn wsX2_remember wsX2_slotAt := goodIn_r _ [11, 2, 12, 3, 4, 5, 6, 44, 45, 46] (by decide +kernel) (by decide +kernel)
set_option maxRecDepth 20000 in
theorem gX2_remember_X2_slotAt : GoodIn wsX2_remember (wsV RX2 31 RX2 yX2_slotAt wsX2_slotAt) := goodIn_app (goodIn_of _ (by decide +kernel)) ggX2_remember_X2_slotAt
set_option maxRecDepth 20000 in
theorem ggX2_remember_X5_copyFrom : GoodIn wsX2_remember wsX5_copyFrom := goodIn_r _ [17, 18, 19, 20, 21, 22, 23, 24, 25, 26, 27, 28, 29, 30, 31, 32, 33, 34, 35, 36, 37, 38, 39, 40, 41, 42, 43, 47, 48, 49, 50, 51, 52, 53, 54, 55, 56, 57, 58, 59] (by decide +kernel) (by decide +kernel)
set_option maxRecDepth 20000 in
theorem gX2_remember_X5_copyFrom : GoodIn wsX2_remember (wsV RX2 35 RX5 yX5_copyFrom wsX5_copyFrom) := goodIn_app (goodIn_of _ (by decide +kernel)) ggX2_remember_X5_copyFrom
theorem dX2_remember_0 : decode cX2_remember 0 = .ok (.aload_n 0, 1) := by decide +kernel
theorem dX2_remember_1 : decode cX2_remember 1 = .ok (.getfield 18, 3) := by decide +kernel
theorem dX2_remember_4 : decode cX2_remember 4 = .ok (.bipush 8, 2) := by decide +kernel
theorem dX2_remember_6 : decode cX2_remember 6 = .ok (.if_icmp .lt 28, 3) := by decide +kernel
theorem dX2_remember_9 : decode cX2_remember 9 = .ok (.aload_n 0, 1) := by decide +kernel
theorem dX2_remember_10 : decode cX2_remember 10 = .ok (.aload_n 0, 1) := by decide +kernel
theorem dX2_remember_11 : decode cX2_remember 11 = .ok (.getfield 22, 3) := by decide +kernel
theorem dX2_remember_14 : decode cX2_remember 14 = .ok (.iconst 1, 1) := by decide +kernel
theorem dX2_remember_15 : decode cX2_remember 15 = .ok (.iadd, 1) := by decide +kernel
theorem dX2_remember_16 : decode cX2_remember 16 = .ok (.bipush 8, 2) := by decide +kernel
theorem dX2_remember_18 : decode cX2_remember 18 = .ok (.invokestatic 25, 3) := by decide +kernel
theorem dX2_remember_21 : decode cX2_remember 21 = .ok (.putfield 22, 3) := by decide +kernel
theorem dX2_remember_24 : decode cX2_remember 24 = .ok (.aload_n 0, 1) := by decide +kernel
theorem dX2_remember_25 : decode cX2_remember 25 = .ok (.dup, 1) := by decide +kernel
theorem dX2_remember_26 : decode cX2_remember 26 = .ok (.getfield 18, 3) := by decide +kernel
theorem dX2_remember_29 : decode cX2_remember 29 = .ok (.iconst 1, 1) := by decide +kernel
theorem dX2_remember_30 : decode cX2_remember 30 = .ok (.isub, 1) := by decide +kernel
theorem dX2_remember_31 : decode cX2_remember 31 = .ok (.putfield 18, 3) := by decide +kernel
theorem dX2_remember_34 : decode cX2_remember 34 = .ok (.aload_n 0, 1) := by decide +kernel
theorem dX2_remember_35 : decode cX2_remember 35 = .ok (.aload_n 0, 1) := by decide +kernel
theorem dX2_remember_36 : decode cX2_remember 36 = .ok (.getfield 18, 3) := by decide +kernel
theorem dX2_remember_39 : decode cX2_remember 39 = .ok (.invokevirtual 31, 3) := by decide +kernel
theorem dX2_remember_42 : decode cX2_remember 42 = .ok (.astore_n 2, 1) := by decide +kernel
theorem dX2_remember_43 : decode cX2_remember 43 = .ok (.aload_n 2, 1) := by decide +kernel
theorem dX2_remember_44 : decode cX2_remember 44 = .ok (.ifnull 18, 3) := by decide +kernel
theorem dX2_remember_47 : decode cX2_remember 47 = .ok (.aload_n 2, 1) := by decide +kernel
theorem dX2_remember_48 : decode cX2_remember 48 = .ok (.aload_n 1, 1) := by decide +kernel
theorem dX2_remember_49 : decode cX2_remember 49 = .ok (.invokevirtual 35, 3) := by decide +kernel
theorem dX2_remember_52 : decode cX2_remember 52 = .ok (.aload_n 0, 1) := by decide +kernel
theorem dX2_remember_53 : decode cX2_remember 53 = .ok (.dup, 1) := by decide +kernel
theorem dX2_remember_54 : decode cX2_remember 54 = .ok (.getfield 18, 3) := by decide +kernel
theorem dX2_remember_57 : decode cX2_remember 57 = .ok (.iconst 1, 1) := by decide +kernel
theorem dX2_remember_58 : decode cX2_remember 58 = .ok (.iadd, 1) := by decide +kernel
theorem dX2_remember_59 : decode cX2_remember 59 = .ok (.putfield 18, 3) := by decide +kernel
theorem dX2_remember_62 : decode cX2_remember 62 = .ok (.return_, 1) := by decide +kernel
set_option maxRecDepth 20000 in
theorem ggX2_takeLatestInto_X2_slotAt : GoodIn wsX2_takeLatestInto wsX2_slotAt := goodIn_r _ [6, 7, 8, 9, 10, 11, 12, 44, 45, 46] (by decide +kernel) (by decide +kernel)
set_option maxRecDepth 20000 in
theorem gX2_takeLatestInto_X2_slotAt : GoodIn wsX2_takeLatestInto (wsV RX2 31 RX2 yX2_slotAt wsX2_slotAt) := goodIn_app (goodIn_of _ (by decide +kernel)) ggX2_takeLatestInto_X2_slotAt
set_option maxRecDepth 20000 in
theorem ggX2_takeLatestInto_X5_copyFrom : GoodIn wsX2_takeLatestInto wsX5_copyFrom := goodIn_r _ [17, 18, 19, 20, 21, 22, 23, 24, 25, 26, 27, 28, 29, 30, 31, 32, 33, 34, 35, 36, 37, 38, 39, 40, 41, 42, 43, 47, 48, 49, 50, 51, 52, 53, 54, 55, 56, 57, 58, 59] (by decide +kernel) (by decide +kernel)
set_option maxRecDepth 20000 in
theorem gX2_takeLatestInto_X5_copyFrom : GoodIn wsX2_takeLatestInto (wsV RX2 35 RX5 yX5_copyFrom wsX5_copyFrom) := goodIn_app (goodIn_of _ (by decide +kernel)) ggX2_takeLatestInto_X5_copyFrom
theorem dX2_takeLatestInto_0 : decode cX2_takeLatestInto 0 = .ok (.aload_n 0, 1) := by decide +kernel
theorem dX2_takeLatestInto_1 : decode cX2_takeLatestInto 1 = .ok (.aload_n 0, 1) := by decide +kernel
theorem dX2_takeLatestInto_2 : decode cX2_takeLatestInto 2 = .ok (.getfield 18, 3) := by decide +kernel
theorem dX2_takeLatestInto_5 : decode cX2_takeLatestInto 5 = .ok (.iconst 1, 1) := by decide +kernel
theorem dX2_takeLatestInto_6 : decode cX2_takeLatestInto 6 = .ok (.isub, 1) := by decide +kernel
theorem dX2_takeLatestInto_7 : decode cX2_takeLatestInto 7 = .ok (.invokevirtual 31, 3) := by decide +kernel
theorem dX2_takeLatestInto_10 : decode cX2_takeLatestInto 10 = .ok (.astore_n 2, 1) := by decide +kernel
theorem dX2_takeLatestInto_11 : decode cX2_takeLatestInto 11 = .ok (.aload_n 2, 1) := by decide +kernel
theorem dX2_takeLatestInto_12 : decode cX2_takeLatestInto 12 = .ok (.ifnull 18, 3) := by decide +kernel
theorem dX2_takeLatestInto_15 : decode cX2_takeLatestInto 15 = .ok (.aload_n 1, 1) := by decide +kernel
theorem dX2_takeLatestInto_16 : decode cX2_takeLatestInto 16 = .ok (.aload_n 2, 1) := by decide +kernel
theorem dX2_takeLatestInto_17 : decode cX2_takeLatestInto 17 = .ok (.invokevirtual 35, 3) := by decide +kernel
theorem dX2_takeLatestInto_20 : decode cX2_takeLatestInto 20 = .ok (.aload_n 0, 1) := by decide +kernel
theorem dX2_takeLatestInto_21 : decode cX2_takeLatestInto 21 = .ok (.dup, 1) := by decide +kernel
theorem dX2_takeLatestInto_22 : decode cX2_takeLatestInto 22 = .ok (.getfield 18, 3) := by decide +kernel
theorem dX2_takeLatestInto_25 : decode cX2_takeLatestInto 25 = .ok (.iconst 1, 1) := by decide +kernel
theorem dX2_takeLatestInto_26 : decode cX2_takeLatestInto 26 = .ok (.isub, 1) := by decide +kernel
theorem dX2_takeLatestInto_27 : decode cX2_takeLatestInto 27 = .ok (.putfield 18, 3) := by decide +kernel
theorem dX2_takeLatestInto_30 : decode cX2_takeLatestInto 30 = .ok (.aload_n 0, 1) := by decide +kernel
theorem dX2_takeLatestInto_31 : decode cX2_takeLatestInto 31 = .ok (.getfield 18, 3) := by decide +kernel
theorem dX2_takeLatestInto_34 : decode cX2_takeLatestInto 34 = .ok (.ireturn, 1) := by decide +kernel
theorem dX2_forgetAll_0 : decode cX2_forgetAll 0 = .ok (.aload_n 0, 1) := by decide +kernel
theorem dX2_forgetAll_1 : decode cX2_forgetAll 1 = .ok (.iconst 0, 1) := by decide +kernel
theorem dX2_forgetAll_2 : decode cX2_forgetAll 2 = .ok (.putfield 18, 3) := by decide +kernel
theorem dX2_forgetAll_5 : decode cX2_forgetAll 5 = .ok (.return_, 1) := by decide +kernel
set_option maxRecDepth 20000 in
theorem ggX2_slotAt_J9_floorMod_7cf53 : GoodIn wsX2_slotAt wsJ9_floorMod_7cf53 := goodIn_r _ [6] (by decide +kernel) (by decide +kernel)
set_option maxRecDepth 20000 in
theorem gX2_slotAt_J9_floorMod_7cf53 : GoodIn wsX2_slotAt (va_wsS RX2 25 yJ9_floorMod_7cf53 wsJ9_floorMod_7cf53) := goodIn_app (goodIn_of _ (by decide +kernel)) ggX2_slotAt_J9_floorMod_7cf53
theorem dX2_slotAt_0 : decode cX2_slotAt 0 = .ok (.aload_n 0, 1) := by decide +kernel
theorem dX2_slotAt_1 : decode cX2_slotAt 1 = .ok (.getfield 22, 3) := by decide +kernel
theorem dX2_slotAt_4 : decode cX2_slotAt 4 = .ok (.iload_n 1, 1) := by decide +kernel
theorem dX2_slotAt_5 : decode cX2_slotAt 5 = .ok (.iadd, 1) := by decide +kernel
theorem dX2_slotAt_6 : decode cX2_slotAt 6 = .ok (.bipush 8, 2) := by decide +kernel
theorem dX2_slotAt_8 : decode cX2_slotAt 8 = .ok (.invokestatic 25, 3) := by decide +kernel
theorem dX2_slotAt_11 : decode cX2_slotAt 11 = .ok (.istore_n 2, 1) := by decide +kernel
theorem dX2_slotAt_12 : decode cX2_slotAt 12 = .ok (.iload_n 2, 1) := by decide +kernel
theorem dX2_slotAt_13 : decode cX2_slotAt 13 = .ok (.ifCond .lt 21, 3) := by decide +kernel
theorem dX2_slotAt_16 : decode cX2_slotAt 16 = .ok (.iload_n 2, 1) := by decide +kernel
theorem dX2_slotAt_17 : decode cX2_slotAt 17 = .ok (.aload_n 0, 1) := by decide +kernel
theorem dX2_slotAt_18 : decode cX2_slotAt 18 = .ok (.getfield 11, 3) := by decide +kernel
theorem dX2_slotAt_21 : decode cX2_slotAt 21 = .ok (.arraylength, 1) := by decide +kernel
theorem dX2_slotAt_22 : decode cX2_slotAt 22 = .ok (.if_icmp .ge 12, 3) := by decide +kernel
theorem dX2_slotAt_25 : decode cX2_slotAt 25 = .ok (.aload_n 0, 1) := by decide +kernel
theorem dX2_slotAt_26 : decode cX2_slotAt 26 = .ok (.getfield 11, 3) := by decide +kernel
theorem dX2_slotAt_29 : decode cX2_slotAt 29 = .ok (.iload_n 2, 1) := by decide +kernel
theorem dX2_slotAt_30 : decode cX2_slotAt 30 = .ok (.aaload, 1) := by decide +kernel
theorem dX2_slotAt_31 : decode cX2_slotAt 31 = .ok (.goto 4, 3) := by decide +kernel
theorem dX2_slotAt_34 : decode cX2_slotAt 34 = .ok (.aconst_null, 1) := by decide +kernel
theorem dX2_slotAt_35 : decode cX2_slotAt 35 = .ok (.areturn, 1) := by decide +kernel
theorem dX4_init_0 : decode cX4_init 0 = .ok (.aload_n 0, 1) := by decide +kernel
theorem dX4_init_1 : decode cX4_init 1 = .ok (.invokespecial 1, 3) := by decide +kernel
theorem dX4_init_4 : decode cX4_init 4 = .ok (.aload_n 0, 1) := by decide +kernel
theorem dX4_init_5 : decode cX4_init 5 = .ok (.iload_n 1, 1) := by decide +kernel
theorem dX4_init_6 : decode cX4_init 6 = .ok (.iconst 0, 1) := by decide +kernel
theorem dX4_init_7 : decode cX4_init 7 = .ok (.invokestatic 7, 3) := by decide +kernel
theorem dX4_init_10 : decode cX4_init 10 = .ok (.newarray .int, 2) := by decide +kernel
theorem dX4_init_12 : decode cX4_init 12 = .ok (.putfield 13, 3) := by decide +kernel
theorem dX4_init_15 : decode cX4_init 15 = .ok (.return_, 1) := by decide +kernel
theorem dX4_get_0 : decode cX4_get 0 = .ok (.iload_n 1, 1) := by decide +kernel
theorem dX4_get_1 : decode cX4_get 1 = .ok (.ifCond .lt 21, 3) := by decide +kernel
theorem dX4_get_4 : decode cX4_get 4 = .ok (.iload_n 1, 1) := by decide +kernel
theorem dX4_get_5 : decode cX4_get 5 = .ok (.aload_n 0, 1) := by decide +kernel
theorem dX4_get_6 : decode cX4_get 6 = .ok (.getfield 13, 3) := by decide +kernel
theorem dX4_get_9 : decode cX4_get 9 = .ok (.arraylength, 1) := by decide +kernel
theorem dX4_get_10 : decode cX4_get 10 = .ok (.if_icmp .ge 12, 3) := by decide +kernel
theorem dX4_get_13 : decode cX4_get 13 = .ok (.aload_n 0, 1) := by decide +kernel
theorem dX4_get_14 : decode cX4_get 14 = .ok (.getfield 13, 3) := by decide +kernel
theorem dX4_get_17 : decode cX4_get 17 = .ok (.iload_n 1, 1) := by decide +kernel
theorem dX4_get_18 : decode cX4_get 18 = .ok (.iaload, 1) := by decide +kernel
theorem dX4_get_19 : decode cX4_get 19 = .ok (.goto 4, 3) := by decide +kernel
theorem dX4_get_22 : decode cX4_get 22 = .ok (.iconst 0, 1) := by decide +kernel
theorem dX4_get_23 : decode cX4_get 23 = .ok (.ireturn, 1) := by decide +kernel
theorem dX4_set_0 : decode cX4_set 0 = .ok (.iload_n 1, 1) := by decide +kernel
theorem dX4_set_1 : decode cX4_set 1 = .ok (.ifCond .lt 19, 3) := by decide +kernel
theorem dX4_set_4 : decode cX4_set 4 = .ok (.iload_n 1, 1) := by decide +kernel
theorem dX4_set_5 : decode cX4_set 5 = .ok (.aload_n 0, 1) := by decide +kernel
theorem dX4_set_6 : decode cX4_set 6 = .ok (.getfield 13, 3) := by decide +kernel
theorem dX4_set_9 : decode cX4_set 9 = .ok (.arraylength, 1) := by decide +kernel
theorem dX4_set_10 : decode cX4_set 10 = .ok (.if_icmp .ge 10, 3) := by decide +kernel
theorem dX4_set_13 : decode cX4_set 13 = .ok (.aload_n 0, 1) := by decide +kernel
theorem dX4_set_14 : decode cX4_set 14 = .ok (.getfield 13, 3) := by decide +kernel
theorem dX4_set_17 : decode cX4_set 17 = .ok (.iload_n 1, 1) := by decide +kernel
theorem dX4_set_18 : decode cX4_set 18 = .ok (.iload_n 2, 1) := by decide +kernel
theorem dX4_set_19 : decode cX4_set 19 = .ok (.iastore, 1) := by decide +kernel
theorem dX4_set_20 : decode cX4_set 20 = .ok (.return_, 1) := by decide +kernel
theorem dX4_fill_0 : decode cX4_fill 0 = .ok (.iconst 0, 1) := by decide +kernel
theorem dX4_fill_1 : decode cX4_fill 1 = .ok (.istore_n 2, 1) := by decide +kernel
theorem dX4_fill_2 : decode cX4_fill 2 = .ok (.iload_n 2, 1) := by decide +kernel
theorem dX4_fill_3 : decode cX4_fill 3 = .ok (.aload_n 0, 1) := by decide +kernel
theorem dX4_fill_4 : decode cX4_fill 4 = .ok (.getfield 13, 3) := by decide +kernel
theorem dX4_fill_7 : decode cX4_fill 7 = .ok (.arraylength, 1) := by decide +kernel
theorem dX4_fill_8 : decode cX4_fill 8 = .ok (.if_icmp .ge 16, 3) := by decide +kernel
theorem dX4_fill_11 : decode cX4_fill 11 = .ok (.aload_n 0, 1) := by decide +kernel
theorem dX4_fill_12 : decode cX4_fill 12 = .ok (.getfield 13, 3) := by decide +kernel
theorem dX4_fill_15 : decode cX4_fill 15 = .ok (.iload_n 2, 1) := by decide +kernel
theorem dX4_fill_16 : decode cX4_fill 16 = .ok (.iload_n 1, 1) := by decide +kernel
theorem dX4_fill_17 : decode cX4_fill 17 = .ok (.iastore, 1) := by decide +kernel
theorem dX4_fill_18 : decode cX4_fill 18 = .ok (.iinc 2 1, 3) := by decide +kernel
theorem dX4_fill_21 : decode cX4_fill 21 = .ok (.goto (-19), 3) := by decide +kernel
theorem dX4_fill_24 : decode cX4_fill 24 = .ok (.return_, 1) := by decide +kernel
theorem dX4_remove_0 : decode cX4_remove 0 = .ok (.iload_n 1, 1) := by decide +kernel
theorem dX4_remove_1 : decode cX4_remove 1 = .ok (.ifCond .lt 45, 3) := by decide +kernel
theorem dX4_remove_4 : decode cX4_remove 4 = .ok (.iload_n 1, 1) := by decide +kernel
theorem dX4_remove_5 : decode cX4_remove 5 = .ok (.aload_n 0, 1) := by decide +kernel
theorem dX4_remove_6 : decode cX4_remove 6 = .ok (.getfield 13, 3) := by decide +kernel
theorem dX4_remove_9 : decode cX4_remove 9 = .ok (.arraylength, 1) := by decide +kernel
theorem dX4_remove_10 : decode cX4_remove 10 = .ok (.if_icmp .ge 36, 3) := by decide +kernel
theorem dX4_remove_13 : decode cX4_remove 13 = .ok (.iload_n 1, 1) := by decide +kernel
theorem dX4_remove_14 : decode cX4_remove 14 = .ok (.istore_n 2, 1) := by decide +kernel
theorem dX4_remove_15 : decode cX4_remove 15 = .ok (.iload_n 2, 1) := by decide +kernel
theorem dX4_remove_16 : decode cX4_remove 16 = .ok (.aload_n 0, 1) := by decide +kernel
theorem dX4_remove_17 : decode cX4_remove 17 = .ok (.getfield 13, 3) := by decide +kernel
theorem dX4_remove_20 : decode cX4_remove 20 = .ok (.arraylength, 1) := by decide +kernel
theorem dX4_remove_21 : decode cX4_remove 21 = .ok (.iconst 1, 1) := by decide +kernel
theorem dX4_remove_22 : decode cX4_remove 22 = .ok (.isub, 1) := by decide +kernel
theorem dX4_remove_23 : decode cX4_remove 23 = .ok (.if_icmp .ge 23, 3) := by decide +kernel
theorem dX4_remove_26 : decode cX4_remove 26 = .ok (.aload_n 0, 1) := by decide +kernel
theorem dX4_remove_27 : decode cX4_remove 27 = .ok (.getfield 13, 3) := by decide +kernel
theorem dX4_remove_30 : decode cX4_remove 30 = .ok (.iload_n 2, 1) := by decide +kernel
theorem dX4_remove_31 : decode cX4_remove 31 = .ok (.aload_n 0, 1) := by decide +kernel
theorem dX4_remove_32 : decode cX4_remove 32 = .ok (.getfield 13, 3) := by decide +kernel
theorem dX4_remove_35 : decode cX4_remove 35 = .ok (.iload_n 2, 1) := by decide +kernel
theorem dX4_remove_36 : decode cX4_remove 36 = .ok (.iconst 1, 1) := by decide +kernel
theorem dX4_remove_37 : decode cX4_remove 37 = .ok (.iadd, 1) := by decide +kernel
theorem dX4_remove_38 : decode cX4_remove 38 = .ok (.iaload, 1) := by decide +kernel
theorem dX4_remove_39 : decode cX4_remove 39 = .ok (.iastore, 1) := by decide +kernel
theorem dX4_remove_40 : decode cX4_remove 40 = .ok (.iinc 2 1, 3) := by decide +kernel
theorem dX4_remove_43 : decode cX4_remove 43 = .ok (.goto (-28), 3) := by decide +kernel
theorem dX4_remove_46 : decode cX4_remove 46 = .ok (.return_, 1) := by decide +kernel
theorem dX4_copyFrom_0 : decode cX4_copyFrom 0 = .ok (.aload_n 1, 1) := by decide +kernel
theorem dX4_copyFrom_1 : decode cX4_copyFrom 1 = .ok (.getfield 13, 3) := by decide +kernel
theorem dX4_copyFrom_4 : decode cX4_copyFrom 4 = .ok (.iconst 0, 1) := by decide +kernel
theorem dX4_copyFrom_5 : decode cX4_copyFrom 5 = .ok (.aload_n 0, 1) := by decide +kernel
theorem dX4_copyFrom_6 : decode cX4_copyFrom 6 = .ok (.getfield 13, 3) := by decide +kernel
theorem dX4_copyFrom_9 : decode cX4_copyFrom 9 = .ok (.iconst 0, 1) := by decide +kernel
theorem dX4_copyFrom_10 : decode cX4_copyFrom 10 = .ok (.aload_n 1, 1) := by decide +kernel
theorem dX4_copyFrom_11 : decode cX4_copyFrom 11 = .ok (.getfield 13, 3) := by decide +kernel
theorem dX4_copyFrom_14 : decode cX4_copyFrom 14 = .ok (.arraylength, 1) := by decide +kernel
theorem dX4_copyFrom_15 : decode cX4_copyFrom 15 = .ok (.aload_n 0, 1) := by decide +kernel
theorem dX4_copyFrom_16 : decode cX4_copyFrom 16 = .ok (.getfield 13, 3) := by decide +kernel
theorem dX4_copyFrom_19 : decode cX4_copyFrom 19 = .ok (.arraylength, 1) := by decide +kernel
theorem dX4_copyFrom_20 : decode cX4_copyFrom 20 = .ok (.invokestatic 19, 3) := by decide +kernel
theorem dX4_copyFrom_23 : decode cX4_copyFrom 23 = .ok (.invokestatic 22, 3) := by decide +kernel
theorem dX4_copyFrom_26 : decode cX4_copyFrom 26 = .ok (.return_, 1) := by decide +kernel
set_option maxRecDepth 20000 in
theorem ggX5_init_X4_init : GoodIn wsX5_init wsX4_init := goodIn_r _ [15, 16, 2, 3, 17, 18, 19, 20, 21, 22, 27] (by decide +kernel) (by decide +kernel)
set_option maxRecDepth 20000 in
theorem gX5_init_X4_init : GoodIn wsX5_init (wsX4_init) := ggX5_init_X4_init
set_option maxRecDepth 20000 in
theorem ggX5_init_X4_fill : GoodIn wsX5_init wsX4_fill := goodIn_ca (goodIn_r _ [26, 22, 27] (by decide +kernel) (by decide +kernel)) (goodIn_sub (fun _ h => List.mem_cons_of_mem _ (List.mem_append_right _ h)) (by decide +kernel))
set_option maxRecDepth 20000 in
theorem gX5_init_X4_fill : GoodIn wsX5_init (wsV RX5 35 RX4 yX4_fill wsX4_fill) := goodIn_app (goodIn_of _ (by decide +kernel)) ggX5_init_X4_fill
theorem dX5_init_0 : decode cX5_init 0 = .ok (.aload_n 0, 1) := by decide +kernel
theorem dX5_init_1 : decode cX5_init 1 = .ok (.invokespecial 3, 3) := by decide +kernel
theorem dX5_init_4 : decode cX5_init 4 = .ok (.aload_n 0, 1) := by decide +kernel
theorem dX5_init_5 : decode cX5_init 5 = .ok (.new 9, 3) := by decide +kernel
theorem dX5_init_8 : decode cX5_init 8 = .ok (.dup, 1) := by decide +kernel
theorem dX5_init_9 : decode cX5_init 9 = .ok (.bipush 10, 2) := by decide +kernel
theorem dX5_init_11 : decode cX5_init 11 = .ok (.invokespecial 11, 3) := by decide +kernel
theorem dX5_init_14 : decode cX5_init 14 = .ok (.putfield 14, 3) := by decide +kernel
theorem dX5_init_17 : decode cX5_init 17 = .ok (.aload_n 0, 1) := by decide +kernel
theorem dX5_init_18 : decode cX5_init 18 = .ok (.new 9, 3) := by decide +kernel
theorem dX5_init_21 : decode cX5_init 21 = .ok (.dup, 1) := by decide +kernel
theorem dX5_init_22 : decode cX5_init 22 = .ok (.bipush 20, 2) := by decide +kernel
theorem dX5_init_24 : decode cX5_init 24 = .ok (.invokespecial 11, 3) := by decide +kernel
theorem dX5_init_27 : decode cX5_init 27 = .ok (.putfield 20, 3) := by decide +kernel
theorem dX5_init_30 : decode cX5_init 30 = .ok (.aload_n 0, 1) := by decide +kernel
theorem dX5_init_31 : decode cX5_init 31 = .ok (.new 9, 3) := by decide +kernel
theorem dX5_init_34 : decode cX5_init 34 = .ok (.dup, 1) := by decide +kernel
theorem dX5_init_35 : decode cX5_init 35 = .ok (.bipush 20, 2) := by decide +kernel
theorem dX5_init_37 : decode cX5_init 37 = .ok (.invokespecial 11, 3) := by decide +kernel
theorem dX5_init_40 : decode cX5_init 40 = .ok (.putfield 23, 3) := by decide +kernel
theorem dX5_init_43 : decode cX5_init 43 = .ok (.aload_n 0, 1) := by decide +kernel
theorem dX5_init_44 : decode cX5_init 44 = .ok (.new 9, 3) := by decide +kernel
theorem dX5_init_47 : decode cX5_init 47 = .ok (.dup, 1) := by decide +kernel
theorem dX5_init_48 : decode cX5_init 48 = .ok (.bipush 20, 2) := by decide +kernel
theorem dX5_init_50 : decode cX5_init 50 = .ok (.invokespecial 11, 3) := by decide +kernel
theorem dX5_init_53 : decode cX5_init 53 = .ok (.putfield 26, 3) := by decide +kernel
theorem dX5_init_56 : decode cX5_init 56 = .ok (.aload_n 0, 1) := by decide +kernel
theorem dX5_init_57 : decode cX5_init 57 = .ok (.new 9, 3) := by decide +kernel
theorem dX5_init_60 : decode cX5_init 60 = .ok (.dup, 1) := by decide +kernel
theorem dX5_init_61 : decode cX5_init 61 = .ok (.bipush 20, 2) := by decide +kernel
theorem dX5_init_63 : decode cX5_init 63 = .ok (.invokespecial 11, 3) := by decide +kernel
theorem dX5_init_66 : decode cX5_init 66 = .ok (.putfield 29, 3) := by decide +kernel
theorem dX5_init_69 : decode cX5_init 69 = .ok (.aload_n 0, 1) := by decide +kernel
theorem dX5_init_70 : decode cX5_init 70 = .ok (.new 9, 3) := by decide +kernel
theorem dX5_init_73 : decode cX5_init 73 = .ok (.dup, 1) := by decide +kernel
theorem dX5_init_74 : decode cX5_init 74 = .ok (.bipush 16, 2) := by decide +kernel
theorem dX5_init_76 : decode cX5_init 76 = .ok (.invokespecial 11, 3) := by decide +kernel
theorem dX5_init_79 : decode cX5_init 79 = .ok (.putfield 32, 3) := by decide +kernel
theorem dX5_init_82 : decode cX5_init 82 = .ok (.aload_n 0, 1) := by decide +kernel
theorem dX5_init_83 : decode cX5_init 83 = .ok (.getfield 32, 3) := by decide +kernel
theorem dX5_init_86 : decode cX5_init 86 = .ok (.bipush 9, 2) := by decide +kernel
theorem dX5_init_88 : decode cX5_init 88 = .ok (.invokevirtual 35, 3) := by decide +kernel
theorem dX5_init_91 : decode cX5_init 91 = .ok (.return_, 1) := by decide +kernel
set_option maxRecDepth 20000 in
theorem ggX5_copyFrom_X4_copyFrom : GoodIn wsX5_copyFrom wsX4_copyFrom := goodIn_r _ [17, 18, 19, 20, 21, 22, 23, 24, 25, 26, 39] (by decide +kernel) (by decide +kernel)
set_option maxRecDepth 20000 in
theorem gX5_copyFrom_X4_copyFrom : GoodIn wsX5_copyFrom (wsV RX5 38 RX4 yX4_copyFrom wsX4_copyFrom) := goodIn_app (goodIn_of _ (by decide +kernel)) ggX5_copyFrom_X4_copyFrom
theorem dX5_copyFrom_0 : decode cX5_copyFrom 0 = .ok (.aload_n 0, 1) := by decide +kernel
theorem dX5_copyFrom_1 : decode cX5_copyFrom 1 = .ok (.getfield 14, 3) := by decide +kernel
theorem dX5_copyFrom_4 : decode cX5_copyFrom 4 = .ok (.aload_n 1, 1) := by decide +kernel
theorem dX5_copyFrom_5 : decode cX5_copyFrom 5 = .ok (.getfield 14, 3) := by decide +kernel
theorem dX5_copyFrom_8 : decode cX5_copyFrom 8 = .ok (.invokevirtual 38, 3) := by decide +kernel
theorem dX5_copyFrom_11 : decode cX5_copyFrom 11 = .ok (.aload_n 0, 1) := by decide +kernel
theorem dX5_copyFrom_12 : decode cX5_copyFrom 12 = .ok (.aload_n 1, 1) := by decide +kernel
theorem dX5_copyFrom_13 : decode cX5_copyFrom 13 = .ok (.getfield 42, 3) := by decide +kernel
theorem dX5_copyFrom_16 : decode cX5_copyFrom 16 = .ok (.putfield 42, 3) := by decide +kernel
theorem dX5_copyFrom_19 : decode cX5_copyFrom 19 = .ok (.aload_n 0, 1) := by decide +kernel
theorem dX5_copyFrom_20 : decode cX5_copyFrom 20 = .ok (.aload_n 1, 1) := by decide +kernel
theorem dX5_copyFrom_21 : decode cX5_copyFrom 21 = .ok (.getfield 46, 3) := by decide +kernel
theorem dX5_copyFrom_24 : decode cX5_copyFrom 24 = .ok (.putfield 46, 3) := by decide +kernel
theorem dX5_copyFrom_27 : decode cX5_copyFrom 27 = .ok (.aload_n 0, 1) := by decide +kernel
theorem dX5_copyFrom_28 : decode cX5_copyFrom 28 = .ok (.getfield 20, 3) := by decide +kernel
theorem dX5_copyFrom_31 : decode cX5_copyFrom 31 = .ok (.aload_n 1, 1) := by decide +kernel
theorem dX5_copyFrom_32 : decode cX5_copyFrom 32 = .ok (.getfield 20, 3) := by decide +kernel
theorem dX5_copyFrom_35 : decode cX5_copyFrom 35 = .ok (.invokevirtual 38, 3) := by decide +kernel
theorem dX5_copyFrom_38 : decode cX5_copyFrom 38 = .ok (.aload_n 0, 1) := by decide +kernel
theorem dX5_copyFrom_39 : decode cX5_copyFrom 39 = .ok (.getfield 23, 3) := by decide +kernel
theorem dX5_copyFrom_42 : decode cX5_copyFrom 42 = .ok (.aload_n 1, 1) := by decide +kernel
theorem dX5_copyFrom_43 : decode cX5_copyFrom 43 = .ok (.getfield 23, 3) := by decide +kernel
theorem dX5_copyFrom_46 : decode cX5_copyFrom 46 = .ok (.invokevirtual 38, 3) := by decide +kernel
theorem dX5_copyFrom_49 : decode cX5_copyFrom 49 = .ok (.aload_n 0, 1) := by decide +kernel
theorem dX5_copyFrom_50 : decode cX5_copyFrom 50 = .ok (.getfield 26, 3) := by decide +kernel
theorem dX5_copyFrom_53 : decode cX5_copyFrom 53 = .ok (.aload_n 1, 1) := by decide +kernel
theorem dX5_copyFrom_54 : decode cX5_copyFrom 54 = .ok (.getfield 26, 3) := by decide +kernel
theorem dX5_copyFrom_57 : decode cX5_copyFrom 57 = .ok (.invokevirtual 38, 3) := by decide +kernel
theorem dX5_copyFrom_60 : decode cX5_copyFrom 60 = .ok (.aload_n 0, 1) := by decide +kernel
theorem dX5_copyFrom_61 : decode cX5_copyFrom 61 = .ok (.getfield 29, 3) := by decide +kernel
theorem dX5_copyFrom_64 : decode cX5_copyFrom 64 = .ok (.aload_n 1, 1) := by decide +kernel
theorem dX5_copyFrom_65 : decode cX5_copyFrom 65 = .ok (.getfield 29, 3) := by decide +kernel
theorem dX5_copyFrom_68 : decode cX5_copyFrom 68 = .ok (.invokevirtual 38, 3) := by decide +kernel
theorem dX5_copyFrom_71 : decode cX5_copyFrom 71 = .ok (.aload_n 0, 1) := by decide +kernel
theorem dX5_copyFrom_72 : decode cX5_copyFrom 72 = .ok (.aload_n 1, 1) := by decide +kernel
theorem dX5_copyFrom_73 : decode cX5_copyFrom 73 = .ok (.getfield 49, 3) := by decide +kernel
theorem dX5_copyFrom_76 : decode cX5_copyFrom 76 = .ok (.putfield 49, 3) := by decide +kernel
theorem dX5_copyFrom_79 : decode cX5_copyFrom 79 = .ok (.aload_n 0, 1) := by decide +kernel
theorem dX5_copyFrom_80 : decode cX5_copyFrom 80 = .ok (.getfield 32, 3) := by decide +kernel
theorem dX5_copyFrom_83 : decode cX5_copyFrom 83 = .ok (.aload_n 1, 1) := by decide +kernel
theorem dX5_copyFrom_84 : decode cX5_copyFrom 84 = .ok (.getfield 32, 3) := by decide +kernel
theorem dX5_copyFrom_87 : decode cX5_copyFrom 87 = .ok (.invokevirtual 38, 3) := by decide +kernel
theorem dX5_copyFrom_90 : decode cX5_copyFrom 90 = .ok (.aload_n 0, 1) := by decide +kernel
theorem dX5_copyFrom_91 : decode cX5_copyFrom 91 = .ok (.aload_n 1, 1) := by decide +kernel
theorem dX5_copyFrom_92 : decode cX5_copyFrom 92 = .ok (.getfield 52, 3) := by decide +kernel
theorem dX5_copyFrom_95 : decode cX5_copyFrom 95 = .ok (.putfield 52, 3) := by decide +kernel
theorem dX5_copyFrom_98 : decode cX5_copyFrom 98 = .ok (.aload_n 0, 1) := by decide +kernel
theorem dX5_copyFrom_99 : decode cX5_copyFrom 99 = .ok (.aload_n 1, 1) := by decide +kernel
theorem dX5_copyFrom_100 : decode cX5_copyFrom 100 = .ok (.getfield 55, 3) := by decide +kernel
theorem dX5_copyFrom_103 : decode cX5_copyFrom 103 = .ok (.putfield 55, 3) := by decide +kernel
theorem dX5_copyFrom_106 : decode cX5_copyFrom 106 = .ok (.aload_n 0, 1) := by decide +kernel
theorem dX5_copyFrom_107 : decode cX5_copyFrom 107 = .ok (.aload_n 1, 1) := by decide +kernel
theorem dX5_copyFrom_108 : decode cX5_copyFrom 108 = .ok (.getfield 58, 3) := by decide +kernel
theorem dX5_copyFrom_111 : decode cX5_copyFrom 111 = .ok (.putfield 58, 3) := by decide +kernel
theorem dX5_copyFrom_114 : decode cX5_copyFrom 114 = .ok (.return_, 1) := by decide +kernel
theorem dX5_hasScarecrow_0 : decode cX5_hasScarecrow 0 = .ok (.iload_n 1, 1) := by decide +kernel
theorem dX5_hasScarecrow_1 : decode cX5_hasScarecrow 1 = .ok (.ifCond .lt 15, 3) := by decide +kernel
theorem dX5_hasScarecrow_4 : decode cX5_hasScarecrow 4 = .ok (.iload_n 1, 1) := by decide +kernel
theorem dX5_hasScarecrow_5 : decode cX5_hasScarecrow 5 = .ok (.aload_n 0, 1) := by decide +kernel
theorem dX5_hasScarecrow_6 : decode cX5_hasScarecrow 6 = .ok (.getfield 42, 3) := by decide +kernel
theorem dX5_hasScarecrow_9 : decode cX5_hasScarecrow 9 = .ok (.if_icmp .ge 7, 3) := by decide +kernel
theorem dX5_hasScarecrow_12 : decode cX5_hasScarecrow 12 = .ok (.iconst 1, 1) := by decide +kernel
theorem dX5_hasScarecrow_13 : decode cX5_hasScarecrow 13 = .ok (.goto 4, 3) := by decide +kernel
theorem dX5_hasScarecrow_16 : decode cX5_hasScarecrow 16 = .ok (.iconst 0, 1) := by decide +kernel
theorem dX5_hasScarecrow_17 : decode cX5_hasScarecrow 17 = .ok (.ireturn, 1) := by decide +kernel
theorem dX5_hasCertificate_0 : decode cX5_hasCertificate 0 = .ok (.iload_n 1, 1) := by decide +kernel
theorem dX5_hasCertificate_1 : decode cX5_hasCertificate 1 = .ok (.ifCond .lt 15, 3) := by decide +kernel
theorem dX5_hasCertificate_4 : decode cX5_hasCertificate 4 = .ok (.iload_n 1, 1) := by decide +kernel
theorem dX5_hasCertificate_5 : decode cX5_hasCertificate 5 = .ok (.aload_n 0, 1) := by decide +kernel
theorem dX5_hasCertificate_6 : decode cX5_hasCertificate 6 = .ok (.getfield 49, 3) := by decide +kernel
theorem dX5_hasCertificate_9 : decode cX5_hasCertificate 9 = .ok (.if_icmp .ge 7, 3) := by decide +kernel
theorem dX5_hasCertificate_12 : decode cX5_hasCertificate 12 = .ok (.iconst 1, 1) := by decide +kernel
theorem dX5_hasCertificate_13 : decode cX5_hasCertificate 13 = .ok (.goto 4, 3) := by decide +kernel
theorem dX5_hasCertificate_16 : decode cX5_hasCertificate 16 = .ok (.iconst 0, 1) := by decide +kernel
theorem dX5_hasCertificate_17 : decode cX5_hasCertificate 17 = .ok (.ireturn, 1) := by decide +kernel
set_option maxRecDepth 20000 in
theorem ggX5_scarecrowAt_X4_get : GoodIn wsX5_scarecrowAt wsX4_get := goodIn_ca (goodIn_r _ [7, 8, 21] (by decide +kernel) (by decide +kernel)) (goodIn_sub (fun _ h => List.mem_cons_of_mem _ (List.mem_append_right _ h)) (by decide +kernel))
set_option maxRecDepth 20000 in
theorem gX5_scarecrowAt_X4_get : GoodIn wsX5_scarecrowAt (wsV RX5 61 RX4 yX4_get wsX4_get) := goodIn_app (goodIn_of _ (by decide +kernel)) ggX5_scarecrowAt_X4_get
theorem dX5_scarecrowAt_0 : decode cX5_scarecrowAt 0 = .ok (.iconst 0, 1) := by decide +kernel
theorem dX5_scarecrowAt_1 : decode cX5_scarecrowAt 1 = .ok (.istore_n 2, 1) := by decide +kernel
theorem dX5_scarecrowAt_2 : decode cX5_scarecrowAt 2 = .ok (.iload_n 2, 1) := by decide +kernel
theorem dX5_scarecrowAt_3 : decode cX5_scarecrowAt 3 = .ok (.aload_n 0, 1) := by decide +kernel
theorem dX5_scarecrowAt_4 : decode cX5_scarecrowAt 4 = .ok (.getfield 42, 3) := by decide +kernel
theorem dX5_scarecrowAt_7 : decode cX5_scarecrowAt 7 = .ok (.if_icmp .ge 23, 3) := by decide +kernel
theorem dX5_scarecrowAt_10 : decode cX5_scarecrowAt 10 = .ok (.aload_n 0, 1) := by decide +kernel
theorem dX5_scarecrowAt_11 : decode cX5_scarecrowAt 11 = .ok (.getfield 14, 3) := by decide +kernel
theorem dX5_scarecrowAt_14 : decode cX5_scarecrowAt 14 = .ok (.iload_n 2, 1) := by decide +kernel
theorem dX5_scarecrowAt_15 : decode cX5_scarecrowAt 15 = .ok (.invokevirtual 61, 3) := by decide +kernel
theorem dX5_scarecrowAt_18 : decode cX5_scarecrowAt 18 = .ok (.iload_n 1, 1) := by decide +kernel
theorem dX5_scarecrowAt_19 : decode cX5_scarecrowAt 19 = .ok (.if_icmp .ne 5, 3) := by decide +kernel
theorem dX5_scarecrowAt_22 : decode cX5_scarecrowAt 22 = .ok (.iload_n 2, 1) := by decide +kernel
theorem dX5_scarecrowAt_23 : decode cX5_scarecrowAt 23 = .ok (.ireturn, 1) := by decide +kernel
theorem dX5_scarecrowAt_24 : decode cX5_scarecrowAt 24 = .ok (.iinc 2 1, 3) := by decide +kernel
theorem dX5_scarecrowAt_27 : decode cX5_scarecrowAt 27 = .ok (.goto (-25), 3) := by decide +kernel
theorem dX5_scarecrowAt_30 : decode cX5_scarecrowAt 30 = .ok (.iconst (-1), 1) := by decide +kernel
theorem dX5_scarecrowAt_31 : decode cX5_scarecrowAt 31 = .ok (.ireturn, 1) := by decide +kernel
set_option maxRecDepth 20000 in
theorem ggX5_addScarecrow_X4_set : GoodIn wsX5_addScarecrow wsX4_set := goodIn_ca (goodIn_r _ [7, 8, 21] (by decide +kernel) (by decide +kernel)) (goodIn_sub (fun _ h => List.mem_cons_of_mem _ (List.mem_append_right _ h)) (by decide +kernel))
set_option maxRecDepth 20000 in
theorem gX5_addScarecrow_X4_set : GoodIn wsX5_addScarecrow (wsV RX5 65 RX4 yX4_set wsX4_set) := goodIn_app (goodIn_of _ (by decide +kernel)) ggX5_addScarecrow_X4_set
theorem dX5_addScarecrow_0 : decode cX5_addScarecrow 0 = .ok (.aload_n 0, 1) := by decide +kernel
theorem dX5_addScarecrow_1 : decode cX5_addScarecrow 1 = .ok (.getfield 42, 3) := by decide +kernel
theorem dX5_addScarecrow_4 : decode cX5_addScarecrow 4 = .ok (.istore_n 2, 1) := by decide +kernel
theorem dX5_addScarecrow_5 : decode cX5_addScarecrow 5 = .ok (.aload_n 0, 1) := by decide +kernel
theorem dX5_addScarecrow_6 : decode cX5_addScarecrow 6 = .ok (.getfield 14, 3) := by decide +kernel
theorem dX5_addScarecrow_9 : decode cX5_addScarecrow 9 = .ok (.iload_n 2, 1) := by decide +kernel
theorem dX5_addScarecrow_10 : decode cX5_addScarecrow 10 = .ok (.iload_n 1, 1) := by decide +kernel
theorem dX5_addScarecrow_11 : decode cX5_addScarecrow 11 = .ok (.invokevirtual 65, 3) := by decide +kernel
theorem dX5_addScarecrow_14 : decode cX5_addScarecrow 14 = .ok (.aload_n 0, 1) := by decide +kernel
theorem dX5_addScarecrow_15 : decode cX5_addScarecrow 15 = .ok (.dup, 1) := by decide +kernel
theorem dX5_addScarecrow_16 : decode cX5_addScarecrow 16 = .ok (.getfield 42, 3) := by decide +kernel
theorem dX5_addScarecrow_19 : decode cX5_addScarecrow 19 = .ok (.iconst 1, 1) := by decide +kernel
theorem dX5_addScarecrow_20 : decode cX5_addScarecrow 20 = .ok (.iadd, 1) := by decide +kernel
theorem dX5_addScarecrow_21 : decode cX5_addScarecrow 21 = .ok (.putfield 42, 3) := by decide +kernel
theorem dX5_addScarecrow_24 : decode cX5_addScarecrow 24 = .ok (.iload_n 2, 1) := by decide +kernel
theorem dX5_addScarecrow_25 : decode cX5_addScarecrow 25 = .ok (.ireturn, 1) := by decide +kernel
set_option maxRecDepth 20000 in
theorem ggX5_addCertificate_X4_set : GoodIn wsX5_addCertificate wsX4_set := goodIn_ca (goodIn_r _ [12, 13, 30] (by decide +kernel) (by decide +kernel)) (goodIn_sub (fun _ h => List.mem_cons_of_mem _ (List.mem_append_right _ h)) (by decide +kernel))
set_option maxRecDepth 20000 in
theorem gX5_addCertificate_X4_set : GoodIn wsX5_addCertificate (wsV RX5 65 RX4 yX4_set wsX4_set) := goodIn_app (goodIn_of _ (by decide +kernel)) ggX5_addCertificate_X4_set
set_option maxRecDepth 20000 in
theorem ggX5_addCertificate_X4_get : GoodIn wsX5_addCertificate wsX4_get := goodIn_ca (goodIn_r _ [17, 13, 30] (by decide +kernel) (by decide +kernel)) (goodIn_sub (fun _ h => List.mem_cons_of_mem _ (List.mem_append_right _ h)) (by decide +kernel))
set_option maxRecDepth 20000 in
theorem gX5_addCertificate_X4_get : GoodIn wsX5_addCertificate (wsV RX5 61 RX4 yX4_get wsX4_get) := goodIn_app (goodIn_of _ (by decide +kernel)) ggX5_addCertificate_X4_get
theorem dX5_addCertificate_0 : decode cX5_addCertificate 0 = .ok (.aload_n 0, 1) := by decide +kernel
theorem dX5_addCertificate_1 : decode cX5_addCertificate 1 = .ok (.getfield 49, 3) := by decide +kernel
theorem dX5_addCertificate_4 : decode cX5_addCertificate 4 = .ok (.istore 4, 2) := by decide +kernel
theorem dX5_addCertificate_6 : decode cX5_addCertificate 6 = .ok (.aload_n 0, 1) := by decide +kernel
theorem dX5_addCertificate_7 : decode cX5_addCertificate 7 = .ok (.getfield 20, 3) := by decide +kernel
theorem dX5_addCertificate_10 : decode cX5_addCertificate 10 = .ok (.iload 4, 2) := by decide +kernel
theorem dX5_addCertificate_12 : decode cX5_addCertificate 12 = .ok (.iload_n 1, 1) := by decide +kernel
theorem dX5_addCertificate_13 : decode cX5_addCertificate 13 = .ok (.invokevirtual 65, 3) := by decide +kernel
theorem dX5_addCertificate_16 : decode cX5_addCertificate 16 = .ok (.aload_n 0, 1) := by decide +kernel
theorem dX5_addCertificate_17 : decode cX5_addCertificate 17 = .ok (.getfield 23, 3) := by decide +kernel
theorem dX5_addCertificate_20 : decode cX5_addCertificate 20 = .ok (.iload 4, 2) := by decide +kernel
theorem dX5_addCertificate_22 : decode cX5_addCertificate 22 = .ok (.iload_n 2, 1) := by decide +kernel
theorem dX5_addCertificate_23 : decode cX5_addCertificate 23 = .ok (.invokevirtual 65, 3) := by decide +kernel
theorem dX5_addCertificate_26 : decode cX5_addCertificate 26 = .ok (.aload_n 0, 1) := by decide +kernel
theorem dX5_addCertificate_27 : decode cX5_addCertificate 27 = .ok (.getfield 26, 3) := by decide +kernel
theorem dX5_addCertificate_30 : decode cX5_addCertificate 30 = .ok (.iload 4, 2) := by decide +kernel
theorem dX5_addCertificate_32 : decode cX5_addCertificate 32 = .ok (.aload_n 0, 1) := by decide +kernel
theorem dX5_addCertificate_33 : decode cX5_addCertificate 33 = .ok (.getfield 14, 3) := by decide +kernel
theorem dX5_addCertificate_36 : decode cX5_addCertificate 36 = .ok (.iload_n 2, 1) := by decide +kernel
theorem dX5_addCertificate_37 : decode cX5_addCertificate 37 = .ok (.invokevirtual 61, 3) := by decide +kernel
theorem dX5_addCertificate_40 : decode cX5_addCertificate 40 = .ok (.invokevirtual 65, 3) := by decide +kernel
theorem dX5_addCertificate_43 : decode cX5_addCertificate 43 = .ok (.aload_n 0, 1) := by decide +kernel
theorem dX5_addCertificate_44 : decode cX5_addCertificate 44 = .ok (.getfield 29, 3) := by decide +kernel
theorem dX5_addCertificate_47 : decode cX5_addCertificate 47 = .ok (.iload 4, 2) := by decide +kernel
theorem dX5_addCertificate_49 : decode cX5_addCertificate 49 = .ok (.aload_n 0, 1) := by decide +kernel
theorem dX5_addCertificate_50 : decode cX5_addCertificate 50 = .ok (.getfield 52, 3) := by decide +kernel
theorem dX5_addCertificate_53 : decode cX5_addCertificate 53 = .ok (.iload_n 3, 1) := by decide +kernel
theorem dX5_addCertificate_54 : decode cX5_addCertificate 54 = .ok (.iadd, 1) := by decide +kernel
theorem dX5_addCertificate_55 : decode cX5_addCertificate 55 = .ok (.invokevirtual 65, 3) := by decide +kernel
theorem dX5_addCertificate_58 : decode cX5_addCertificate 58 = .ok (.aload_n 0, 1) := by decide +kernel
theorem dX5_addCertificate_59 : decode cX5_addCertificate 59 = .ok (.dup, 1) := by decide +kernel
theorem dX5_addCertificate_60 : decode cX5_addCertificate 60 = .ok (.getfield 49, 3) := by decide +kernel
theorem dX5_addCertificate_63 : decode cX5_addCertificate 63 = .ok (.iconst 1, 1) := by decide +kernel
theorem dX5_addCertificate_64 : decode cX5_addCertificate 64 = .ok (.iadd, 1) := by decide +kernel
theorem dX5_addCertificate_65 : decode cX5_addCertificate 65 = .ok (.putfield 49, 3) := by decide +kernel
theorem dX5_addCertificate_68 : decode cX5_addCertificate 68 = .ok (.iload 4, 2) := by decide +kernel
theorem dX5_addCertificate_70 : decode cX5_addCertificate 70 = .ok (.ireturn, 1) := by decide +kernel
set_option maxRecDepth 20000 in
theorem ggX5_removeCertificate_X4_remove : GoodIn wsX5_removeCertificate wsX4_remove := goodIn_ca (goodIn_r _ [10, 11, 24] (by decide +kernel) (by decide +kernel)) (goodIn_sub (fun _ h => List.mem_cons_of_mem _ (List.mem_append_right _ h)) (by decide +kernel))
set_option maxRecDepth 20000 in
theorem gX5_removeCertificate_X4_remove : GoodIn wsX5_removeCertificate (wsV RX5 69 RX4 yX4_remove wsX4_remove) := goodIn_app (goodIn_of _ (by decide +kernel)) ggX5_removeCertificate_X4_remove
theorem dX5_removeCertificate_0 : decode cX5_removeCertificate 0 = .ok (.aload_n 0, 1) := by decide +kernel
theorem dX5_removeCertificate_1 : decode cX5_removeCertificate 1 = .ok (.getfield 20, 3) := by decide +kernel
theorem dX5_removeCertificate_4 : decode cX5_removeCertificate 4 = .ok (.iload_n 1, 1) := by decide +kernel
theorem dX5_removeCertificate_5 : decode cX5_removeCertificate 5 = .ok (.invokevirtual 69, 3) := by decide +kernel
theorem dX5_removeCertificate_8 : decode cX5_removeCertificate 8 = .ok (.aload_n 0, 1) := by decide +kernel
theorem dX5_removeCertificate_9 : decode cX5_removeCertificate 9 = .ok (.getfield 23, 3) := by decide +kernel
theorem dX5_removeCertificate_12 : decode cX5_removeCertificate 12 = .ok (.iload_n 1, 1) := by decide +kernel
theorem dX5_removeCertificate_13 : decode cX5_removeCertificate 13 = .ok (.invokevirtual 69, 3) := by decide +kernel
theorem dX5_removeCertificate_16 : decode cX5_removeCertificate 16 = .ok (.aload_n 0, 1) := by decide +kernel
theorem dX5_removeCertificate_17 : decode cX5_removeCertificate 17 = .ok (.getfield 26, 3) := by decide +kernel
theorem dX5_removeCertificate_20 : decode cX5_removeCertificate 20 = .ok (.iload_n 1, 1) := by decide +kernel
theorem dX5_removeCertificate_21 : decode cX5_removeCertificate 21 = .ok (.invokevirtual 69, 3) := by decide +kernel
theorem dX5_removeCertificate_24 : decode cX5_removeCertificate 24 = .ok (.aload_n 0, 1) := by decide +kernel
theorem dX5_removeCertificate_25 : decode cX5_removeCertificate 25 = .ok (.getfield 29, 3) := by decide +kernel
theorem dX5_removeCertificate_28 : decode cX5_removeCertificate 28 = .ok (.iload_n 1, 1) := by decide +kernel
theorem dX5_removeCertificate_29 : decode cX5_removeCertificate 29 = .ok (.invokevirtual 69, 3) := by decide +kernel
theorem dX5_removeCertificate_32 : decode cX5_removeCertificate 32 = .ok (.aload_n 0, 1) := by decide +kernel
theorem dX5_removeCertificate_33 : decode cX5_removeCertificate 33 = .ok (.dup, 1) := by decide +kernel
theorem dX5_removeCertificate_34 : decode cX5_removeCertificate 34 = .ok (.getfield 49, 3) := by decide +kernel
theorem dX5_removeCertificate_37 : decode cX5_removeCertificate 37 = .ok (.iconst 1, 1) := by decide +kernel
theorem dX5_removeCertificate_38 : decode cX5_removeCertificate 38 = .ok (.isub, 1) := by decide +kernel
theorem dX5_removeCertificate_39 : decode cX5_removeCertificate 39 = .ok (.putfield 49, 3) := by decide +kernel
theorem dX5_removeCertificate_42 : decode cX5_removeCertificate 42 = .ok (.return_, 1) := by decide +kernel
set_option maxRecDepth 20000 in
theorem ggX5_backedBy_X4_get : GoodIn wsX5_backedBy wsX4_get := goodIn_ca (goodIn_r _ [11, 12, 28] (by decide +kernel) (by decide +kernel)) (goodIn_sub (fun _ h => List.mem_cons_of_mem _ (List.mem_append_right _ h)) (by decide +kernel))
set_option maxRecDepth 20000 in
theorem gX5_backedBy_X4_get : GoodIn wsX5_backedBy (wsV RX5 61 RX4 yX4_get wsX4_get) := goodIn_app (goodIn_of _ (by decide +kernel)) ggX5_backedBy_X4_get
set_option maxRecDepth 20000 in
theorem ggX5_backedBy_X6_has : GoodIn wsX5_backedBy wsX6_has := goodIn_r _ [15] (by decide +kernel) (by decide +kernel)
set_option maxRecDepth 20000 in
theorem gX5_backedBy_X6_has_n72 : GoodIn wsX5_backedBy (wsX6_has) := ggX5_backedBy_X6_has
theorem dX5_backedBy_0 : decode cX5_backedBy 0 = .ok (.iconst 0, 1) := by decide +kernel
theorem dX5_backedBy_1 : decode cX5_backedBy 1 = .ok (.istore_n 3, 1) := by decide +kernel
theorem dX5_backedBy_2 : decode cX5_backedBy 2 = .ok (.iconst 0, 1) := by decide +kernel
theorem dX5_backedBy_3 : decode cX5_backedBy 3 = .ok (.istore 4, 2) := by decide +kernel
theorem dX5_backedBy_5 : decode cX5_backedBy 5 = .ok (.iload 4, 2) := by decide +kernel
theorem dX5_backedBy_7 : decode cX5_backedBy 7 = .ok (.aload_n 0, 1) := by decide +kernel
theorem dX5_backedBy_8 : decode cX5_backedBy 8 = .ok (.getfield 49, 3) := by decide +kernel
theorem dX5_backedBy_11 : decode cX5_backedBy 11 = .ok (.if_icmp .ge 107, 3) := by decide +kernel
theorem dX5_backedBy_14 : decode cX5_backedBy 14 = .ok (.aload_n 0, 1) := by decide +kernel
theorem dX5_backedBy_15 : decode cX5_backedBy 15 = .ok (.getfield 20, 3) := by decide +kernel
theorem dX5_backedBy_18 : decode cX5_backedBy 18 = .ok (.iload 4, 2) := by decide +kernel
theorem dX5_backedBy_20 : decode cX5_backedBy 20 = .ok (.invokevirtual 61, 3) := by decide +kernel
theorem dX5_backedBy_23 : decode cX5_backedBy 23 = .ok (.istore 5, 2) := by decide +kernel
theorem dX5_backedBy_25 : decode cX5_backedBy 25 = .ok (.iload 5, 2) := by decide +kernel
theorem dX5_backedBy_27 : decode cX5_backedBy 27 = .ok (.iconst (-1), 1) := by decide +kernel
theorem dX5_backedBy_28 : decode cX5_backedBy 28 = .ok (.if_icmp .eq 12, 3) := by decide +kernel
theorem dX5_backedBy_31 : decode cX5_backedBy 31 = .ok (.iload_n 1, 1) := by decide +kernel
theorem dX5_backedBy_32 : decode cX5_backedBy 32 = .ok (.iload 5, 2) := by decide +kernel
theorem dX5_backedBy_34 : decode cX5_backedBy 34 = .ok (.invokestatic 72, 3) := by decide +kernel
theorem dX5_backedBy_37 : decode cX5_backedBy 37 = .ok (.ifCond .eq 7, 3) := by decide +kernel
theorem dX5_backedBy_40 : decode cX5_backedBy 40 = .ok (.iconst 1, 1) := by decide +kernel
theorem dX5_backedBy_41 : decode cX5_backedBy 41 = .ok (.goto 4, 3) := by decide +kernel
theorem dX5_backedBy_44 : decode cX5_backedBy 44 = .ok (.iconst 0, 1) := by decide +kernel
theorem dX5_backedBy_45 : decode cX5_backedBy 45 = .ok (.istore 6, 2) := by decide +kernel
theorem dX5_backedBy_47 : decode cX5_backedBy 47 = .ok (.aload_n 0, 1) := by decide +kernel
theorem dX5_backedBy_48 : decode cX5_backedBy 48 = .ok (.getfield 14, 3) := by decide +kernel
theorem dX5_backedBy_51 : decode cX5_backedBy 51 = .ok (.aload_n 0, 1) := by decide +kernel
theorem dX5_backedBy_52 : decode cX5_backedBy 52 = .ok (.getfield 23, 3) := by decide +kernel
theorem dX5_backedBy_55 : decode cX5_backedBy 55 = .ok (.iload 4, 2) := by decide +kernel
theorem dX5_backedBy_57 : decode cX5_backedBy 57 = .ok (.invokevirtual 61, 3) := by decide +kernel
theorem dX5_backedBy_60 : decode cX5_backedBy 60 = .ok (.invokevirtual 61, 3) := by decide +kernel
theorem dX5_backedBy_63 : decode cX5_backedBy 63 = .ok (.aload_n 0, 1) := by decide +kernel
theorem dX5_backedBy_64 : decode cX5_backedBy 64 = .ok (.getfield 26, 3) := by decide +kernel
theorem dX5_backedBy_67 : decode cX5_backedBy 67 = .ok (.iload 4, 2) := by decide +kernel
theorem dX5_backedBy_69 : decode cX5_backedBy 69 = .ok (.invokevirtual 61, 3) := by decide +kernel
theorem dX5_backedBy_72 : decode cX5_backedBy 72 = .ok (.if_icmp .ne 7, 3) := by decide +kernel
theorem dX5_backedBy_75 : decode cX5_backedBy 75 = .ok (.iconst 1, 1) := by decide +kernel
theorem dX5_backedBy_76 : decode cX5_backedBy 76 = .ok (.goto 4, 3) := by decide +kernel
theorem dX5_backedBy_79 : decode cX5_backedBy 79 = .ok (.iconst 0, 1) := by decide +kernel
theorem dX5_backedBy_80 : decode cX5_backedBy 80 = .ok (.istore 7, 2) := by decide +kernel
theorem dX5_backedBy_82 : decode cX5_backedBy 82 = .ok (.iload 6, 2) := by decide +kernel
theorem dX5_backedBy_84 : decode cX5_backedBy 84 = .ok (.ifCond .eq 28, 3) := by decide +kernel
theorem dX5_backedBy_87 : decode cX5_backedBy 87 = .ok (.iload 7, 2) := by decide +kernel
theorem dX5_backedBy_89 : decode cX5_backedBy 89 = .ok (.ifCond .eq 23, 3) := by decide +kernel
theorem dX5_backedBy_92 : decode cX5_backedBy 92 = .ok (.aload_n 0, 1) := by decide +kernel
theorem dX5_backedBy_93 : decode cX5_backedBy 93 = .ok (.getfield 29, 3) := by decide +kernel
theorem dX5_backedBy_96 : decode cX5_backedBy 96 = .ok (.iload 4, 2) := by decide +kernel
theorem dX5_backedBy_98 : decode cX5_backedBy 98 = .ok (.invokevirtual 61, 3) := by decide +kernel
theorem dX5_backedBy_101 : decode cX5_backedBy 101 = .ok (.iload_n 2, 1) := by decide +kernel
theorem dX5_backedBy_102 : decode cX5_backedBy 102 = .ok (.if_icmp .lt 10, 3) := by decide +kernel
theorem dX5_backedBy_105 : decode cX5_backedBy 105 = .ok (.iload_n 3, 1) := by decide +kernel
theorem dX5_backedBy_106 : decode cX5_backedBy 106 = .ok (.iconst 1, 1) := by decide +kernel
theorem dX5_backedBy_107 : decode cX5_backedBy 107 = .ok (.iload 4, 2) := by decide +kernel
theorem dX5_backedBy_109 : decode cX5_backedBy 109 = .ok (.ishl, 1) := by decide +kernel
theorem dX5_backedBy_110 : decode cX5_backedBy 110 = .ok (.ior, 1) := by decide +kernel
theorem dX5_backedBy_111 : decode cX5_backedBy 111 = .ok (.istore_n 3, 1) := by decide +kernel
theorem dX5_backedBy_112 : decode cX5_backedBy 112 = .ok (.iinc 4 1, 3) := by decide +kernel
theorem dX5_backedBy_115 : decode cX5_backedBy 115 = .ok (.goto (-110), 3) := by decide +kernel
theorem dX5_backedBy_118 : decode cX5_backedBy 118 = .ok (.iload_n 3, 1) := by decide +kernel
theorem dX5_backedBy_119 : decode cX5_backedBy 119 = .ok (.ireturn, 1) := by decide +kernel
set_option maxRecDepth 20000 in
theorem ggX5_subjectsOf_X6_has : GoodIn wsX5_subjectsOf wsX6_has := goodIn_r _ [5] (by decide +kernel) (by decide +kernel)
set_option maxRecDepth 20000 in
theorem gX5_subjectsOf_X6_has_n72 : GoodIn wsX5_subjectsOf (wsX6_has) := ggX5_subjectsOf_X6_has
set_option maxRecDepth 20000 in
theorem ggX5_subjectsOf_X4_get : GoodIn wsX5_subjectsOf wsX4_get := goodIn_ca (goodIn_r _ [10, 11, 24] (by decide +kernel) (by decide +kernel)) (goodIn_sub (fun _ h => List.mem_cons_of_mem _ (List.mem_append_right _ h)) (by decide +kernel))
set_option maxRecDepth 20000 in
theorem gX5_subjectsOf_X4_get : GoodIn wsX5_subjectsOf (wsV RX5 61 RX4 yX4_get wsX4_get) := goodIn_app (goodIn_of _ (by decide +kernel)) ggX5_subjectsOf_X4_get
theorem dX5_subjectsOf_0 : decode cX5_subjectsOf 0 = .ok (.iconst 0, 1) := by decide +kernel
theorem dX5_subjectsOf_1 : decode cX5_subjectsOf 1 = .ok (.istore_n 2, 1) := by decide +kernel
theorem dX5_subjectsOf_2 : decode cX5_subjectsOf 2 = .ok (.iconst 0, 1) := by decide +kernel
theorem dX5_subjectsOf_3 : decode cX5_subjectsOf 3 = .ok (.istore_n 3, 1) := by decide +kernel
theorem dX5_subjectsOf_4 : decode cX5_subjectsOf 4 = .ok (.iload_n 3, 1) := by decide +kernel
theorem dX5_subjectsOf_5 : decode cX5_subjectsOf 5 = .ok (.aload_n 0, 1) := by decide +kernel
theorem dX5_subjectsOf_6 : decode cX5_subjectsOf 6 = .ok (.getfield 49, 3) := by decide +kernel
theorem dX5_subjectsOf_9 : decode cX5_subjectsOf 9 = .ok (.if_icmp .ge 30, 3) := by decide +kernel
theorem dX5_subjectsOf_12 : decode cX5_subjectsOf 12 = .ok (.iload_n 1, 1) := by decide +kernel
theorem dX5_subjectsOf_13 : decode cX5_subjectsOf 13 = .ok (.iload_n 3, 1) := by decide +kernel
theorem dX5_subjectsOf_14 : decode cX5_subjectsOf 14 = .ok (.invokestatic 72, 3) := by decide +kernel
theorem dX5_subjectsOf_17 : decode cX5_subjectsOf 17 = .ok (.ifCond .eq 16, 3) := by decide +kernel
theorem dX5_subjectsOf_20 : decode cX5_subjectsOf 20 = .ok (.iload_n 2, 1) := by decide +kernel
theorem dX5_subjectsOf_21 : decode cX5_subjectsOf 21 = .ok (.iconst 1, 1) := by decide +kernel
theorem dX5_subjectsOf_22 : decode cX5_subjectsOf 22 = .ok (.aload_n 0, 1) := by decide +kernel
theorem dX5_subjectsOf_23 : decode cX5_subjectsOf 23 = .ok (.getfield 23, 3) := by decide +kernel
theorem dX5_subjectsOf_26 : decode cX5_subjectsOf 26 = .ok (.iload_n 3, 1) := by decide +kernel
theorem dX5_subjectsOf_27 : decode cX5_subjectsOf 27 = .ok (.invokevirtual 61, 3) := by decide +kernel
theorem dX5_subjectsOf_30 : decode cX5_subjectsOf 30 = .ok (.ishl, 1) := by decide +kernel
theorem dX5_subjectsOf_31 : decode cX5_subjectsOf 31 = .ok (.ior, 1) := by decide +kernel
theorem dX5_subjectsOf_32 : decode cX5_subjectsOf 32 = .ok (.istore_n 2, 1) := by decide +kernel
theorem dX5_subjectsOf_33 : decode cX5_subjectsOf 33 = .ok (.iinc 3 1, 3) := by decide +kernel
theorem dX5_subjectsOf_36 : decode cX5_subjectsOf 36 = .ok (.goto (-32), 3) := by decide +kernel
theorem dX5_subjectsOf_39 : decode cX5_subjectsOf 39 = .ok (.iload_n 2, 1) := by decide +kernel
theorem dX5_subjectsOf_40 : decode cX5_subjectsOf 40 = .ok (.ireturn, 1) := by decide +kernel
set_option maxRecDepth 20000 in
theorem ggX5_certifiedWithin_X5_backedBy : GoodIn wsX5_certifiedWithin wsX5_backedBy := goodIn_ca (goodIn_r _ [6, 7, 8, 9, 10, 11, 12, 13, 14, 15, 16, 17, 18, 19, 20, 21, 26, 27, 28, 29, 30, 31, 32, 33, 34, 35, 36, 37, 38] (by decide +kernel) (by decide +kernel)) (goodIn_sub (fun _ h => List.mem_cons_of_mem _ (List.mem_append_right _ h)) (by decide +kernel))
set_option maxRecDepth 20000 in
theorem gX5_certifiedWithin_X5_backedBy : GoodIn wsX5_certifiedWithin (wsV RX5 76 RX5 yX5_backedBy wsX5_backedBy) := goodIn_app (goodIn_of _ (by decide +kernel)) ggX5_certifiedWithin_X5_backedBy
set_option maxRecDepth 20000 in
theorem ggX5_certifiedWithin_X5_subjectsOf : GoodIn wsX5_certifiedWithin wsX5_subjectsOf := goodIn_ca (goodIn_r _ [25, 7, 10, 19, 20, 21, 13, 14, 15, 16, 17, 18, 26, 27, 28, 29, 30, 31, 32, 33, 34, 35, 36, 37, 38] (by decide +kernel) (by decide +kernel)) (goodIn_sub (fun _ h => List.mem_cons_of_mem _ (List.mem_append_right _ h)) (by decide +kernel))
set_option maxRecDepth 20000 in
theorem gX5_certifiedWithin_X5_subjectsOf : GoodIn wsX5_certifiedWithin (wsV RX5 80 RX5 yX5_subjectsOf wsX5_subjectsOf) := goodIn_app (goodIn_of _ (by decide +kernel)) ggX5_certifiedWithin_X5_subjectsOf
theorem dX5_certifiedWithin_0 : decode cX5_certifiedWithin 0 = .ok (.iconst 0, 1) := by decide +kernel
theorem dX5_certifiedWithin_1 : decode cX5_certifiedWithin 1 = .ok (.istore_n 3, 1) := by decide +kernel
theorem dX5_certifiedWithin_2 : decode cX5_certifiedWithin 2 = .ok (.iconst (-1), 1) := by decide +kernel
theorem dX5_certifiedWithin_3 : decode cX5_certifiedWithin 3 = .ok (.istore 4, 2) := by decide +kernel
theorem dX5_certifiedWithin_5 : decode cX5_certifiedWithin 5 = .ok (.iconst 0, 1) := by decide +kernel
theorem dX5_certifiedWithin_6 : decode cX5_certifiedWithin 6 = .ok (.istore 5, 2) := by decide +kernel
theorem dX5_certifiedWithin_8 : decode cX5_certifiedWithin 8 = .ok (.iload 5, 2) := by decide +kernel
theorem dX5_certifiedWithin_10 : decode cX5_certifiedWithin 10 = .ok (.iload_n 1, 1) := by decide +kernel
theorem dX5_certifiedWithin_11 : decode cX5_certifiedWithin 11 = .ok (.if_icmp .ge 36, 3) := by decide +kernel
theorem dX5_certifiedWithin_14 : decode cX5_certifiedWithin 14 = .ok (.iload_n 3, 1) := by decide +kernel
theorem dX5_certifiedWithin_15 : decode cX5_certifiedWithin 15 = .ok (.iload 4, 2) := by decide +kernel
theorem dX5_certifiedWithin_17 : decode cX5_certifiedWithin 17 = .ok (.if_icmp .eq 30, 3) := by decide +kernel
theorem dX5_certifiedWithin_20 : decode cX5_certifiedWithin 20 = .ok (.iload_n 3, 1) := by decide +kernel
theorem dX5_certifiedWithin_21 : decode cX5_certifiedWithin 21 = .ok (.istore 4, 2) := by decide +kernel
theorem dX5_certifiedWithin_23 : decode cX5_certifiedWithin 23 = .ok (.aload_n 0, 1) := by decide +kernel
theorem dX5_certifiedWithin_24 : decode cX5_certifiedWithin 24 = .ok (.aload_n 0, 1) := by decide +kernel
theorem dX5_certifiedWithin_25 : decode cX5_certifiedWithin 25 = .ok (.iload_n 3, 1) := by decide +kernel
theorem dX5_certifiedWithin_26 : decode cX5_certifiedWithin 26 = .ok (.iload_n 2, 1) := by decide +kernel
theorem dX5_certifiedWithin_27 : decode cX5_certifiedWithin 27 = .ok (.invokevirtual 76, 3) := by decide +kernel
theorem dX5_certifiedWithin_30 : decode cX5_certifiedWithin 30 = .ok (.invokevirtual 80, 3) := by decide +kernel
theorem dX5_certifiedWithin_33 : decode cX5_certifiedWithin 33 = .ok (.aload_n 0, 1) := by decide +kernel
theorem dX5_certifiedWithin_34 : decode cX5_certifiedWithin 34 = .ok (.getfield 46, 3) := by decide +kernel
theorem dX5_certifiedWithin_37 : decode cX5_certifiedWithin 37 = .ok (.iconst (-1), 1) := by decide +kernel
theorem dX5_certifiedWithin_38 : decode cX5_certifiedWithin 38 = .ok (.ixor, 1) := by decide +kernel
theorem dX5_certifiedWithin_39 : decode cX5_certifiedWithin 39 = .ok (.iand, 1) := by decide +kernel
theorem dX5_certifiedWithin_40 : decode cX5_certifiedWithin 40 = .ok (.istore_n 3, 1) := by decide +kernel
theorem dX5_certifiedWithin_41 : decode cX5_certifiedWithin 41 = .ok (.iinc 5 1, 3) := by decide +kernel
theorem dX5_certifiedWithin_44 : decode cX5_certifiedWithin 44 = .ok (.goto (-36), 3) := by decide +kernel
theorem dX5_certifiedWithin_47 : decode cX5_certifiedWithin 47 = .ok (.iload_n 3, 1) := by decide +kernel
theorem dX5_certifiedWithin_48 : decode cX5_certifiedWithin 48 = .ok (.ireturn, 1) := by decide +kernel
set_option maxRecDepth 20000 in
theorem ggX5_certifiedNow_X5_certifiedWithin : GoodIn wsX5_certifiedNow wsX5_certifiedWithin := goodIn_ca (goodIn_r _ [6, 7, 8, 9, 10, 5, 11, 12, 13, 14, 15, 16, 17, 18, 19, 20, 21, 22, 23, 24, 25, 26, 27, 28, 29, 30, 31, 32, 33, 34, 35, 36, 37, 38, 39, 40, 41, 42, 43] (by decide +kernel) (by decide +kernel)) (goodIn_sub (fun _ h => List.mem_cons_of_mem _ (List.mem_append_right _ h)) (by decide +kernel))
set_option maxRecDepth 20000 in
theorem gX5_certifiedNow_X5_certifiedWithin : GoodIn wsX5_certifiedNow (wsV RX5 83 RX5 yX5_certifiedWithin wsX5_certifiedWithin) := goodIn_app (goodIn_of _ (by decide +kernel)) ggX5_certifiedNow_X5_certifiedWithin
theorem dX5_certifiedNow_0 : decode cX5_certifiedNow 0 = .ok (.aload_n 0, 1) := by decide +kernel
theorem dX5_certifiedNow_1 : decode cX5_certifiedNow 1 = .ok (.bipush 10, 2) := by decide +kernel
theorem dX5_certifiedNow_3 : decode cX5_certifiedNow 3 = .ok (.aload_n 0, 1) := by decide +kernel
theorem dX5_certifiedNow_4 : decode cX5_certifiedNow 4 = .ok (.getfield 52, 3) := by decide +kernel
theorem dX5_certifiedNow_7 : decode cX5_certifiedNow 7 = .ok (.invokevirtual 83, 3) := by decide +kernel
theorem dX5_certifiedNow_10 : decode cX5_certifiedNow 10 = .ok (.ireturn, 1) := by decide +kernel
set_option maxRecDepth 20000 in
theorem ggX5_inForceNow_X5_certifiedNow : GoodIn wsX5_inForceNow wsX5_certifiedNow := goodIn_ca (goodIn_r _ [6, 1, 7, 8, 9, 5, 10, 11, 12, 13, 14, 15, 16, 17, 18, 19, 20, 21, 22, 23, 24, 25, 26, 27, 28, 29, 30, 31, 32, 33, 34, 35, 36, 37, 38, 39, 40, 41, 42, 43, 44, 45, 46, 47] (by decide +kernel) (by decide +kernel)) (goodIn_sub (fun _ h => List.mem_cons_of_mem _ (List.mem_append_right _ h)) (by decide +kernel))
set_option maxRecDepth 20000 in
theorem gX5_inForceNow_X5_certifiedNow : GoodIn wsX5_inForceNow (wsV RX5 86 RX5 yX5_certifiedNow wsX5_certifiedNow) := goodIn_app (goodIn_of _ (by decide +kernel)) ggX5_inForceNow_X5_certifiedNow
set_option maxRecDepth 20000 in
theorem ggX5_inForceNow_X5_backedBy : GoodIn wsX5_inForceNow wsX5_backedBy := goodIn_ca (goodIn_r _ [15, 16, 17, 18, 19, 20, 21, 22, 23, 24, 25, 26, 27, 28, 29, 30, 35, 36, 37, 38, 39, 40, 41, 42, 43, 44, 45, 46, 47] (by decide +kernel) (by decide +kernel)) (goodIn_sub (fun _ h => List.mem_cons_of_mem _ (List.mem_append_right _ h)) (by decide +kernel))
set_option maxRecDepth 20000 in
theorem gX5_inForceNow_X5_backedBy : GoodIn wsX5_inForceNow (wsV RX5 76 RX5 yX5_backedBy wsX5_backedBy) := goodIn_app (goodIn_of _ (by decide +kernel)) ggX5_inForceNow_X5_backedBy
theorem dX5_inForceNow_0 : decode cX5_inForceNow 0 = .ok (.aload_n 0, 1) := by decide +kernel
theorem dX5_inForceNow_1 : decode cX5_inForceNow 1 = .ok (.aload_n 0, 1) := by decide +kernel
theorem dX5_inForceNow_2 : decode cX5_inForceNow 2 = .ok (.invokevirtual 86, 3) := by decide +kernel
theorem dX5_inForceNow_5 : decode cX5_inForceNow 5 = .ok (.aload_n 0, 1) := by decide +kernel
theorem dX5_inForceNow_6 : decode cX5_inForceNow 6 = .ok (.getfield 52, 3) := by decide +kernel
theorem dX5_inForceNow_9 : decode cX5_inForceNow 9 = .ok (.invokevirtual 76, 3) := by decide +kernel
theorem dX5_inForceNow_12 : decode cX5_inForceNow 12 = .ok (.ireturn, 1) := by decide +kernel
set_option maxRecDepth 20000 in
theorem ggX5_leadsBackToRegistry_X4_get : GoodIn wsX5_leadsBackToRegistry wsX4_get := goodIn_ca (goodIn_r _ [11, 12, 28] (by decide +kernel) (by decide +kernel)) (goodIn_sub (fun _ h => List.mem_cons_of_mem _ (List.mem_append_right _ h)) (by decide +kernel))
set_option maxRecDepth 20000 in
theorem gX5_leadsBackToRegistry_X4_get : GoodIn wsX5_leadsBackToRegistry (wsV RX5 61 RX4 yX4_get wsX4_get) := goodIn_app (goodIn_of _ (by decide +kernel)) ggX5_leadsBackToRegistry_X4_get
set_option maxRecDepth 20000 in
theorem ggX5_leadsBackToRegistry_X6_has : GoodIn wsX5_leadsBackToRegistry wsX6_has := goodIn_r _ [15] (by decide +kernel) (by decide +kernel)
set_option maxRecDepth 20000 in
theorem gX5_leadsBackToRegistry_X6_has_n72 : GoodIn wsX5_leadsBackToRegistry (wsX6_has) := ggX5_leadsBackToRegistry_X6_has
theorem dX5_leadsBackToRegistry_0 : decode cX5_leadsBackToRegistry 0 = .ok (.iconst 1, 1) := by decide +kernel
theorem dX5_leadsBackToRegistry_1 : decode cX5_leadsBackToRegistry 1 = .ok (.iload_n 1, 1) := by decide +kernel
theorem dX5_leadsBackToRegistry_2 : decode cX5_leadsBackToRegistry 2 = .ok (.ishl, 1) := by decide +kernel
theorem dX5_leadsBackToRegistry_3 : decode cX5_leadsBackToRegistry 3 = .ok (.aload_n 0, 1) := by decide +kernel
theorem dX5_leadsBackToRegistry_4 : decode cX5_leadsBackToRegistry 4 = .ok (.getfield 46, 3) := by decide +kernel
theorem dX5_leadsBackToRegistry_7 : decode cX5_leadsBackToRegistry 7 = .ok (.iconst (-1), 1) := by decide +kernel
theorem dX5_leadsBackToRegistry_8 : decode cX5_leadsBackToRegistry 8 = .ok (.ixor, 1) := by decide +kernel
theorem dX5_leadsBackToRegistry_9 : decode cX5_leadsBackToRegistry 9 = .ok (.iand, 1) := by decide +kernel
theorem dX5_leadsBackToRegistry_10 : decode cX5_leadsBackToRegistry 10 = .ok (.istore_n 2, 1) := by decide +kernel
theorem dX5_leadsBackToRegistry_11 : decode cX5_leadsBackToRegistry 11 = .ok (.iconst 0, 1) := by decide +kernel
theorem dX5_leadsBackToRegistry_12 : decode cX5_leadsBackToRegistry 12 = .ok (.istore_n 3, 1) := by decide +kernel
theorem dX5_leadsBackToRegistry_13 : decode cX5_leadsBackToRegistry 13 = .ok (.iload_n 3, 1) := by decide +kernel
theorem dX5_leadsBackToRegistry_14 : decode cX5_leadsBackToRegistry 14 = .ok (.bipush 10, 2) := by decide +kernel
theorem dX5_leadsBackToRegistry_16 : decode cX5_leadsBackToRegistry 16 = .ok (.if_icmp .ge 101, 3) := by decide +kernel
theorem dX5_leadsBackToRegistry_19 : decode cX5_leadsBackToRegistry 19 = .ok (.iconst 0, 1) := by decide +kernel
theorem dX5_leadsBackToRegistry_20 : decode cX5_leadsBackToRegistry 20 = .ok (.istore 4, 2) := by decide +kernel
theorem dX5_leadsBackToRegistry_22 : decode cX5_leadsBackToRegistry 22 = .ok (.iload 4, 2) := by decide +kernel
theorem dX5_leadsBackToRegistry_24 : decode cX5_leadsBackToRegistry 24 = .ok (.aload_n 0, 1) := by decide +kernel
theorem dX5_leadsBackToRegistry_25 : decode cX5_leadsBackToRegistry 25 = .ok (.getfield 49, 3) := by decide +kernel
theorem dX5_leadsBackToRegistry_28 : decode cX5_leadsBackToRegistry 28 = .ok (.if_icmp .ge 83, 3) := by decide +kernel
theorem dX5_leadsBackToRegistry_31 : decode cX5_leadsBackToRegistry 31 = .ok (.aload_n 0, 1) := by decide +kernel
theorem dX5_leadsBackToRegistry_32 : decode cX5_leadsBackToRegistry 32 = .ok (.getfield 23, 3) := by decide +kernel
theorem dX5_leadsBackToRegistry_35 : decode cX5_leadsBackToRegistry 35 = .ok (.iload 4, 2) := by decide +kernel
theorem dX5_leadsBackToRegistry_37 : decode cX5_leadsBackToRegistry 37 = .ok (.invokevirtual 61, 3) := by decide +kernel
theorem dX5_leadsBackToRegistry_40 : decode cX5_leadsBackToRegistry 40 = .ok (.istore 5, 2) := by decide +kernel
theorem dX5_leadsBackToRegistry_42 : decode cX5_leadsBackToRegistry 42 = .ok (.iload_n 2, 1) := by decide +kernel
theorem dX5_leadsBackToRegistry_43 : decode cX5_leadsBackToRegistry 43 = .ok (.iload 5, 2) := by decide +kernel
theorem dX5_leadsBackToRegistry_45 : decode cX5_leadsBackToRegistry 45 = .ok (.invokestatic 72, 3) := by decide +kernel
theorem dX5_leadsBackToRegistry_48 : decode cX5_leadsBackToRegistry 48 = .ok (.ifCond .eq 57, 3) := by decide +kernel
theorem dX5_leadsBackToRegistry_51 : decode cX5_leadsBackToRegistry 51 = .ok (.aload_n 0, 1) := by decide +kernel
theorem dX5_leadsBackToRegistry_52 : decode cX5_leadsBackToRegistry 52 = .ok (.getfield 14, 3) := by decide +kernel
theorem dX5_leadsBackToRegistry_55 : decode cX5_leadsBackToRegistry 55 = .ok (.iload 5, 2) := by decide +kernel
theorem dX5_leadsBackToRegistry_57 : decode cX5_leadsBackToRegistry 57 = .ok (.invokevirtual 61, 3) := by decide +kernel
theorem dX5_leadsBackToRegistry_60 : decode cX5_leadsBackToRegistry 60 = .ok (.aload_n 0, 1) := by decide +kernel
theorem dX5_leadsBackToRegistry_61 : decode cX5_leadsBackToRegistry 61 = .ok (.getfield 26, 3) := by decide +kernel
theorem dX5_leadsBackToRegistry_64 : decode cX5_leadsBackToRegistry 64 = .ok (.iload 4, 2) := by decide +kernel
theorem dX5_leadsBackToRegistry_66 : decode cX5_leadsBackToRegistry 66 = .ok (.invokevirtual 61, 3) := by decide +kernel
theorem dX5_leadsBackToRegistry_69 : decode cX5_leadsBackToRegistry 69 = .ok (.if_icmp .ne 36, 3) := by decide +kernel
theorem dX5_leadsBackToRegistry_72 : decode cX5_leadsBackToRegistry 72 = .ok (.aload_n 0, 1) := by decide +kernel
theorem dX5_leadsBackToRegistry_73 : decode cX5_leadsBackToRegistry 73 = .ok (.getfield 20, 3) := by decide +kernel
theorem dX5_leadsBackToRegistry_76 : decode cX5_leadsBackToRegistry 76 = .ok (.iload 4, 2) := by decide +kernel
theorem dX5_leadsBackToRegistry_78 : decode cX5_leadsBackToRegistry 78 = .ok (.invokevirtual 61, 3) := by decide +kernel
theorem dX5_leadsBackToRegistry_81 : decode cX5_leadsBackToRegistry 81 = .ok (.istore 6, 2) := by decide +kernel
theorem dX5_leadsBackToRegistry_83 : decode cX5_leadsBackToRegistry 83 = .ok (.iload 6, 2) := by decide +kernel
theorem dX5_leadsBackToRegistry_85 : decode cX5_leadsBackToRegistry 85 = .ok (.iconst (-1), 1) := by decide +kernel
theorem dX5_leadsBackToRegistry_86 : decode cX5_leadsBackToRegistry 86 = .ok (.if_icmp .ne 5, 3) := by decide +kernel
theorem dX5_leadsBackToRegistry_89 : decode cX5_leadsBackToRegistry 89 = .ok (.iconst 1, 1) := by decide +kernel
theorem dX5_leadsBackToRegistry_90 : decode cX5_leadsBackToRegistry 90 = .ok (.ireturn, 1) := by decide +kernel
theorem dX5_leadsBackToRegistry_91 : decode cX5_leadsBackToRegistry 91 = .ok (.iload_n 2, 1) := by decide +kernel
theorem dX5_leadsBackToRegistry_92 : decode cX5_leadsBackToRegistry 92 = .ok (.iconst 1, 1) := by decide +kernel
theorem dX5_leadsBackToRegistry_93 : decode cX5_leadsBackToRegistry 93 = .ok (.iload 6, 2) := by decide +kernel
theorem dX5_leadsBackToRegistry_95 : decode cX5_leadsBackToRegistry 95 = .ok (.ishl, 1) := by decide +kernel
theorem dX5_leadsBackToRegistry_96 : decode cX5_leadsBackToRegistry 96 = .ok (.aload_n 0, 1) := by decide +kernel
theorem dX5_leadsBackToRegistry_97 : decode cX5_leadsBackToRegistry 97 = .ok (.getfield 46, 3) := by decide +kernel
theorem dX5_leadsBackToRegistry_100 : decode cX5_leadsBackToRegistry 100 = .ok (.iconst (-1), 1) := by decide +kernel
theorem dX5_leadsBackToRegistry_101 : decode cX5_leadsBackToRegistry 101 = .ok (.ixor, 1) := by decide +kernel
theorem dX5_leadsBackToRegistry_102 : decode cX5_leadsBackToRegistry 102 = .ok (.iand, 1) := by decide +kernel
theorem dX5_leadsBackToRegistry_103 : decode cX5_leadsBackToRegistry 103 = .ok (.ior, 1) := by decide +kernel
theorem dX5_leadsBackToRegistry_104 : decode cX5_leadsBackToRegistry 104 = .ok (.istore_n 2, 1) := by decide +kernel
theorem dX5_leadsBackToRegistry_105 : decode cX5_leadsBackToRegistry 105 = .ok (.iinc 4 1, 3) := by decide +kernel
theorem dX5_leadsBackToRegistry_108 : decode cX5_leadsBackToRegistry 108 = .ok (.goto (-86), 3) := by decide +kernel
theorem dX5_leadsBackToRegistry_111 : decode cX5_leadsBackToRegistry 111 = .ok (.iinc 3 1, 3) := by decide +kernel
theorem dX5_leadsBackToRegistry_114 : decode cX5_leadsBackToRegistry 114 = .ok (.goto (-101), 3) := by decide +kernel
theorem dX5_leadsBackToRegistry_117 : decode cX5_leadsBackToRegistry 117 = .ok (.iconst 0, 1) := by decide +kernel
theorem dX5_leadsBackToRegistry_118 : decode cX5_leadsBackToRegistry 118 = .ok (.ireturn, 1) := by decide +kernel
set_option maxRecDepth 20000 in
theorem ggX5_countFor_X6_has : GoodIn wsX5_countFor wsX6_has := goodIn_r _ [5] (by decide +kernel) (by decide +kernel)
set_option maxRecDepth 20000 in
theorem gX5_countFor_X6_has_n72 : GoodIn wsX5_countFor (wsX6_has) := ggX5_countFor_X6_has
set_option maxRecDepth 20000 in
theorem ggX5_countFor_X4_get : GoodIn wsX5_countFor wsX4_get := goodIn_ca (goodIn_r _ [10, 11, 24] (by decide +kernel) (by decide +kernel)) (goodIn_sub (fun _ h => List.mem_cons_of_mem _ (List.mem_append_right _ h)) (by decide +kernel))
set_option maxRecDepth 20000 in
theorem gX5_countFor_X4_get : GoodIn wsX5_countFor (wsV RX5 61 RX4 yX4_get wsX4_get) := goodIn_app (goodIn_of _ (by decide +kernel)) ggX5_countFor_X4_get
theorem dX5_countFor_0 : decode cX5_countFor 0 = .ok (.iconst 0, 1) := by decide +kernel
theorem dX5_countFor_1 : decode cX5_countFor 1 = .ok (.istore_n 3, 1) := by decide +kernel
theorem dX5_countFor_2 : decode cX5_countFor 2 = .ok (.iconst 0, 1) := by decide +kernel
theorem dX5_countFor_3 : decode cX5_countFor 3 = .ok (.istore 4, 2) := by decide +kernel
theorem dX5_countFor_5 : decode cX5_countFor 5 = .ok (.iload 4, 2) := by decide +kernel
theorem dX5_countFor_7 : decode cX5_countFor 7 = .ok (.aload_n 0, 1) := by decide +kernel
theorem dX5_countFor_8 : decode cX5_countFor 8 = .ok (.getfield 49, 3) := by decide +kernel
theorem dX5_countFor_11 : decode cX5_countFor 11 = .ok (.if_icmp .ge 34, 3) := by decide +kernel
theorem dX5_countFor_14 : decode cX5_countFor 14 = .ok (.iload_n 2, 1) := by decide +kernel
theorem dX5_countFor_15 : decode cX5_countFor 15 = .ok (.iload 4, 2) := by decide +kernel
theorem dX5_countFor_17 : decode cX5_countFor 17 = .ok (.invokestatic 72, 3) := by decide +kernel
theorem dX5_countFor_20 : decode cX5_countFor 20 = .ok (.ifCond .eq 19, 3) := by decide +kernel
theorem dX5_countFor_23 : decode cX5_countFor 23 = .ok (.aload_n 0, 1) := by decide +kernel
theorem dX5_countFor_24 : decode cX5_countFor 24 = .ok (.getfield 23, 3) := by decide +kernel
theorem dX5_countFor_27 : decode cX5_countFor 27 = .ok (.iload 4, 2) := by decide +kernel
theorem dX5_countFor_29 : decode cX5_countFor 29 = .ok (.invokevirtual 61, 3) := by decide +kernel
theorem dX5_countFor_32 : decode cX5_countFor 32 = .ok (.iload_n 1, 1) := by decide +kernel
theorem dX5_countFor_33 : decode cX5_countFor 33 = .ok (.if_icmp .ne 6, 3) := by decide +kernel
theorem dX5_countFor_36 : decode cX5_countFor 36 = .ok (.iinc 3 1, 3) := by decide +kernel
theorem dX5_countFor_39 : decode cX5_countFor 39 = .ok (.iinc 4 1, 3) := by decide +kernel
theorem dX5_countFor_42 : decode cX5_countFor 42 = .ok (.goto (-37), 3) := by decide +kernel
theorem dX5_countFor_45 : decode cX5_countFor 45 = .ok (.iload_n 3, 1) := by decide +kernel
theorem dX5_countFor_46 : decode cX5_countFor 46 = .ok (.ireturn, 1) := by decide +kernel
set_option maxRecDepth 20000 in
theorem ggX5_rankOf_X5_countFor : GoodIn wsX5_rankOf wsX5_countFor := goodIn_ca (goodIn_r _ [6, 7, 8, 9, 10, 11, 12, 13, 14, 15, 16, 17, 18, 19, 20, 21, 22, 23, 24, 25, 26, 27, 28, 29, 30] (by decide +kernel) (by decide +kernel)) (goodIn_sub (fun _ h => List.mem_cons_of_mem _ (List.mem_append_right _ h)) (by decide +kernel))
set_option maxRecDepth 20000 in
theorem gX5_rankOf_X5_countFor : GoodIn wsX5_rankOf (wsV RX5 90 RX5 yX5_countFor wsX5_countFor) := goodIn_app (goodIn_of _ (by decide +kernel)) ggX5_rankOf_X5_countFor
theorem dX5_rankOf_0 : decode cX5_rankOf 0 = .ok (.aload_n 0, 1) := by decide +kernel
theorem dX5_rankOf_1 : decode cX5_rankOf 1 = .ok (.iload_n 1, 1) := by decide +kernel
theorem dX5_rankOf_2 : decode cX5_rankOf 2 = .ok (.iload_n 2, 1) := by decide +kernel
theorem dX5_rankOf_3 : decode cX5_rankOf 3 = .ok (.invokevirtual 90, 3) := by decide +kernel
theorem dX5_rankOf_6 : decode cX5_rankOf 6 = .ok (.istore_n 3, 1) := by decide +kernel
theorem dX5_rankOf_7 : decode cX5_rankOf 7 = .ok (.iconst 0, 1) := by decide +kernel
theorem dX5_rankOf_8 : decode cX5_rankOf 8 = .ok (.istore 4, 2) := by decide +kernel
theorem dX5_rankOf_10 : decode cX5_rankOf 10 = .ok (.iconst 0, 1) := by decide +kernel
theorem dX5_rankOf_11 : decode cX5_rankOf 11 = .ok (.istore 5, 2) := by decide +kernel
theorem dX5_rankOf_13 : decode cX5_rankOf 13 = .ok (.iload 5, 2) := by decide +kernel
theorem dX5_rankOf_15 : decode cX5_rankOf 15 = .ok (.aload_n 0, 1) := by decide +kernel
theorem dX5_rankOf_16 : decode cX5_rankOf 16 = .ok (.getfield 42, 3) := by decide +kernel
theorem dX5_rankOf_19 : decode cX5_rankOf 19 = .ok (.if_icmp .ge 39, 3) := by decide +kernel
theorem dX5_rankOf_22 : decode cX5_rankOf 22 = .ok (.aload_n 0, 1) := by decide +kernel
theorem dX5_rankOf_23 : decode cX5_rankOf 23 = .ok (.iload 5, 2) := by decide +kernel
theorem dX5_rankOf_25 : decode cX5_rankOf 25 = .ok (.iload_n 2, 1) := by decide +kernel
theorem dX5_rankOf_26 : decode cX5_rankOf 26 = .ok (.invokevirtual 90, 3) := by decide +kernel
theorem dX5_rankOf_29 : decode cX5_rankOf 29 = .ok (.istore 6, 2) := by decide +kernel
theorem dX5_rankOf_31 : decode cX5_rankOf 31 = .ok (.iload 6, 2) := by decide +kernel
theorem dX5_rankOf_33 : decode cX5_rankOf 33 = .ok (.iload_n 3, 1) := by decide +kernel
theorem dX5_rankOf_34 : decode cX5_rankOf 34 = .ok (.if_icmp .gt 15, 3) := by decide +kernel
theorem dX5_rankOf_37 : decode cX5_rankOf 37 = .ok (.iload 6, 2) := by decide +kernel
theorem dX5_rankOf_39 : decode cX5_rankOf 39 = .ok (.iload_n 3, 1) := by decide +kernel
theorem dX5_rankOf_40 : decode cX5_rankOf 40 = .ok (.if_icmp .ne 12, 3) := by decide +kernel
theorem dX5_rankOf_43 : decode cX5_rankOf 43 = .ok (.iload 5, 2) := by decide +kernel
theorem dX5_rankOf_45 : decode cX5_rankOf 45 = .ok (.iload_n 1, 1) := by decide +kernel
theorem dX5_rankOf_46 : decode cX5_rankOf 46 = .ok (.if_icmp .ge 6, 3) := by decide +kernel
theorem dX5_rankOf_49 : decode cX5_rankOf 49 = .ok (.iinc 4 1, 3) := by decide +kernel
theorem dX5_rankOf_52 : decode cX5_rankOf 52 = .ok (.iinc 5 1, 3) := by decide +kernel
theorem dX5_rankOf_55 : decode cX5_rankOf 55 = .ok (.goto (-42), 3) := by decide +kernel
theorem dX5_rankOf_58 : decode cX5_rankOf 58 = .ok (.iload 4, 2) := by decide +kernel
theorem dX5_rankOf_60 : decode cX5_rankOf 60 = .ok (.ireturn, 1) := by decide +kernel
set_option maxRecDepth 20000 in
theorem ggX5_isNearOneOf_X6_has : GoodIn wsX5_isNearOneOf wsX6_has := goodIn_r _ [5] (by decide +kernel) (by decide +kernel)
set_option maxRecDepth 20000 in
theorem gX5_isNearOneOf_X6_has_n72 : GoodIn wsX5_isNearOneOf (wsX6_has) := ggX5_isNearOneOf_X6_has
set_option maxRecDepth 20000 in
theorem ggX5_isNearOneOf_X4_get : GoodIn wsX5_isNearOneOf wsX4_get := goodIn_ca (goodIn_r _ [10, 11, 30] (by decide +kernel) (by decide +kernel)) (goodIn_sub (fun _ h => List.mem_cons_of_mem _ (List.mem_append_right _ h)) (by decide +kernel))
set_option maxRecDepth 20000 in
theorem gX5_isNearOneOf_X4_get : GoodIn wsX5_isNearOneOf (wsV RX5 61 RX4 yX4_get wsX4_get) := goodIn_app (goodIn_of _ (by decide +kernel)) ggX5_isNearOneOf_X4_get
set_option maxRecDepth 20000 in
theorem ggX5_isNearOneOf_X6_distance : GoodIn wsX5_isNearOneOf wsX6_distance := goodIn_r _ [13, 14, 15, 16, 17] (by decide +kernel) (by decide +kernel)
set_option maxRecDepth 20000 in
theorem gX5_isNearOneOf_X6_distance_n93 : GoodIn wsX5_isNearOneOf (wsX6_distance) := ggX5_isNearOneOf_X6_distance
theorem dX5_isNearOneOf_0 : decode cX5_isNearOneOf 0 = .ok (.iconst 0, 1) := by decide +kernel
theorem dX5_isNearOneOf_1 : decode cX5_isNearOneOf 1 = .ok (.istore_n 3, 1) := by decide +kernel
theorem dX5_isNearOneOf_2 : decode cX5_isNearOneOf 2 = .ok (.iload_n 3, 1) := by decide +kernel
theorem dX5_isNearOneOf_3 : decode cX5_isNearOneOf 3 = .ok (.aload_n 0, 1) := by decide +kernel
theorem dX5_isNearOneOf_4 : decode cX5_isNearOneOf 4 = .ok (.getfield 42, 3) := by decide +kernel
theorem dX5_isNearOneOf_7 : decode cX5_isNearOneOf 7 = .ok (.if_icmp .ge 35, 3) := by decide +kernel
theorem dX5_isNearOneOf_10 : decode cX5_isNearOneOf 10 = .ok (.iload_n 1, 1) := by decide +kernel
theorem dX5_isNearOneOf_11 : decode cX5_isNearOneOf 11 = .ok (.iload_n 3, 1) := by decide +kernel
theorem dX5_isNearOneOf_12 : decode cX5_isNearOneOf 12 = .ok (.invokestatic 72, 3) := by decide +kernel
theorem dX5_isNearOneOf_15 : decode cX5_isNearOneOf 15 = .ok (.ifCond .eq 21, 3) := by decide +kernel
theorem dX5_isNearOneOf_18 : decode cX5_isNearOneOf 18 = .ok (.aload_n 0, 1) := by decide +kernel
theorem dX5_isNearOneOf_19 : decode cX5_isNearOneOf 19 = .ok (.getfield 14, 3) := by decide +kernel
theorem dX5_isNearOneOf_22 : decode cX5_isNearOneOf 22 = .ok (.iload_n 3, 1) := by decide +kernel
theorem dX5_isNearOneOf_23 : decode cX5_isNearOneOf 23 = .ok (.invokevirtual 61, 3) := by decide +kernel
theorem dX5_isNearOneOf_26 : decode cX5_isNearOneOf 26 = .ok (.iload_n 2, 1) := by decide +kernel
theorem dX5_isNearOneOf_27 : decode cX5_isNearOneOf 27 = .ok (.invokestatic 93, 3) := by decide +kernel
theorem dX5_isNearOneOf_30 : decode cX5_isNearOneOf 30 = .ok (.iconst 1, 1) := by decide +kernel
theorem dX5_isNearOneOf_31 : decode cX5_isNearOneOf 31 = .ok (.if_icmp .gt 5, 3) := by decide +kernel
theorem dX5_isNearOneOf_34 : decode cX5_isNearOneOf 34 = .ok (.iconst 1, 1) := by decide +kernel
theorem dX5_isNearOneOf_35 : decode cX5_isNearOneOf 35 = .ok (.ireturn, 1) := by decide +kernel
theorem dX5_isNearOneOf_36 : decode cX5_isNearOneOf 36 = .ok (.iinc 3 1, 3) := by decide +kernel
theorem dX5_isNearOneOf_39 : decode cX5_isNearOneOf 39 = .ok (.goto (-37), 3) := by decide +kernel
theorem dX5_isNearOneOf_42 : decode cX5_isNearOneOf 42 = .ok (.iconst 0, 1) := by decide +kernel
theorem dX5_isNearOneOf_43 : decode cX5_isNearOneOf 43 = .ok (.ireturn, 1) := by decide +kernel
set_option maxRecDepth 20000 in
theorem ggX5_signOf_X5_scarecrowAt : GoodIn wsX5_signOf wsX5_scarecrowAt := goodIn_ca (goodIn_r _ [6, 7, 8, 9, 10, 11, 12, 13, 14, 28, 29, 30, 31, 32, 33, 34, 35, 36, 37, 38, 39, 40] (by decide +kernel) (by decide +kernel)) (goodIn_sub (fun _ h => List.mem_cons_of_mem _ (List.mem_append_right _ h)) (by decide +kernel))
set_option maxRecDepth 20000 in
theorem gX5_signOf_X5_scarecrowAt : GoodIn wsX5_signOf (wsV RX5 96 RX5 yX5_scarecrowAt wsX5_scarecrowAt) := goodIn_app (goodIn_of _ (by decide +kernel)) ggX5_signOf_X5_scarecrowAt
set_option maxRecDepth 20000 in
theorem ggX5_signOf_X5_isNearOneOf : GoodIn wsX5_signOf wsX5_isNearOneOf := goodIn_ca (goodIn_r _ [18, 7, 8, 19, 20, 21, 9, 10, 11, 12, 13, 14, 22, 23, 24, 25, 26, 27, 28, 29, 30, 31, 32, 33, 34, 35, 36, 37, 38, 39, 40] (by decide +kernel) (by decide +kernel)) (goodIn_sub (fun _ h => List.mem_cons_of_mem _ (List.mem_append_right _ h)) (by decide +kernel))
set_option maxRecDepth 20000 in
theorem gX5_signOf_X5_isNearOneOf : GoodIn wsX5_signOf (wsV RX5 99 RX5 yX5_isNearOneOf wsX5_isNearOneOf) := goodIn_app (goodIn_of _ (by decide +kernel)) ggX5_signOf_X5_isNearOneOf
set_option maxRecDepth 20000 in
theorem ggX5_signOf_X6_has : GoodIn wsX5_signOf wsX6_has := goodIn_r _ [21] (by decide +kernel) (by decide +kernel)
set_option maxRecDepth 20000 in
theorem gX5_signOf_X6_has_n72 : GoodIn wsX5_signOf (wsX6_has) := ggX5_signOf_X6_has
theorem dX5_signOf_0 : decode cX5_signOf 0 = .ok (.aload_n 0, 1) := by decide +kernel
theorem dX5_signOf_1 : decode cX5_signOf 1 = .ok (.iload_n 1, 1) := by decide +kernel
theorem dX5_signOf_2 : decode cX5_signOf 2 = .ok (.invokevirtual 96, 3) := by decide +kernel
theorem dX5_signOf_5 : decode cX5_signOf 5 = .ok (.istore_n 3, 1) := by decide +kernel
theorem dX5_signOf_6 : decode cX5_signOf 6 = .ok (.iload_n 3, 1) := by decide +kernel
theorem dX5_signOf_7 : decode cX5_signOf 7 = .ok (.iconst (-1), 1) := by decide +kernel
theorem dX5_signOf_8 : decode cX5_signOf 8 = .ok (.if_icmp .ne 20, 3) := by decide +kernel
theorem dX5_signOf_11 : decode cX5_signOf 11 = .ok (.aload_n 0, 1) := by decide +kernel
theorem dX5_signOf_12 : decode cX5_signOf 12 = .ok (.iload_n 2, 1) := by decide +kernel
theorem dX5_signOf_13 : decode cX5_signOf 13 = .ok (.iload_n 1, 1) := by decide +kernel
theorem dX5_signOf_14 : decode cX5_signOf 14 = .ok (.invokevirtual 99, 3) := by decide +kernel
theorem dX5_signOf_17 : decode cX5_signOf 17 = .ok (.ifCond .eq 8, 3) := by decide +kernel
theorem dX5_signOf_20 : decode cX5_signOf 20 = .ok (.bipush 43, 2) := by decide +kernel
theorem dX5_signOf_22 : decode cX5_signOf 22 = .ok (.goto 5, 3) := by decide +kernel
theorem dX5_signOf_25 : decode cX5_signOf 25 = .ok (.bipush 46, 2) := by decide +kernel
theorem dX5_signOf_27 : decode cX5_signOf 27 = .ok (.ireturn, 1) := by decide +kernel
theorem dX5_signOf_28 : decode cX5_signOf 28 = .ok (.aload_n 0, 1) := by decide +kernel
theorem dX5_signOf_29 : decode cX5_signOf 29 = .ok (.getfield 46, 3) := by decide +kernel
theorem dX5_signOf_32 : decode cX5_signOf 32 = .ok (.iload_n 3, 1) := by decide +kernel
theorem dX5_signOf_33 : decode cX5_signOf 33 = .ok (.invokestatic 72, 3) := by decide +kernel
theorem dX5_signOf_36 : decode cX5_signOf 36 = .ok (.ifCond .eq 6, 3) := by decide +kernel
theorem dX5_signOf_39 : decode cX5_signOf 39 = .ok (.bipush 82, 2) := by decide +kernel
theorem dX5_signOf_41 : decode cX5_signOf 41 = .ok (.ireturn, 1) := by decide +kernel
theorem dX5_signOf_42 : decode cX5_signOf 42 = .ok (.iload_n 2, 1) := by decide +kernel
theorem dX5_signOf_43 : decode cX5_signOf 43 = .ok (.iload_n 3, 1) := by decide +kernel
theorem dX5_signOf_44 : decode cX5_signOf 44 = .ok (.invokestatic 72, 3) := by decide +kernel
theorem dX5_signOf_47 : decode cX5_signOf 47 = .ok (.ifCond .eq 8, 3) := by decide +kernel
theorem dX5_signOf_50 : decode cX5_signOf 50 = .ok (.bipush 67, 2) := by decide +kernel
theorem dX5_signOf_52 : decode cX5_signOf 52 = .ok (.goto 5, 3) := by decide +kernel
theorem dX5_signOf_55 : decode cX5_signOf 55 = .ok (.bipush 83, 2) := by decide +kernel
theorem dX5_signOf_57 : decode cX5_signOf 57 = .ok (.ireturn, 1) := by decide +kernel
set_option maxRecDepth 20000 in
theorem ggX5_letDaysPass_X5_dropExpired : GoodIn wsX5_letDaysPass wsX5_dropExpired := goodIn_ca (goodIn_r _ [8, 9, 10, 1, 11, 12, 13, 14, 15, 16, 17, 18, 19, 7, 20, 21, 22, 23, 24, 25, 26, 27, 66, 67, 68, 69, 70, 71, 72, 73, 74, 75, 76, 77, 78] (by decide +kernel) (by decide +kernel)) (goodIn_sub (fun _ h => List.mem_cons_of_mem _ (List.mem_append_right _ h)) (by decide +kernel))
set_option maxRecDepth 20000 in
theorem gX5_letDaysPass_X5_dropExpired : GoodIn wsX5_letDaysPass (wsV RX5 102 RX5 yX5_dropExpired wsX5_dropExpired) := goodIn_app (goodIn_of _ (by decide +kernel)) ggX5_letDaysPass_X5_dropExpired
set_option maxRecDepth 20000 in
theorem ggX5_letDaysPass_X6_lookOn : GoodIn wsX5_letDaysPass wsX6_lookOn := goodIn_r _ [30, 31, 32, 33, 34] (by decide +kernel) (by decide +kernel)
set_option maxRecDepth 20000 in
theorem gX5_letDaysPass_X6_lookOn_n105 : GoodIn wsX5_letDaysPass (wsX6_lookOn) := ggX5_letDaysPass_X6_lookOn
set_option maxRecDepth 20000 in
theorem ggX5_letDaysPass_X4_get : GoodIn wsX5_letDaysPass wsX4_get := goodIn_ca (goodIn_r _ [15, 16, 78] (by decide +kernel) (by decide +kernel)) (goodIn_sub (fun _ h => List.mem_cons_of_mem _ (List.mem_append_right _ h)) (by decide +kernel))
set_option maxRecDepth 20000 in
theorem gX5_letDaysPass_X4_get : GoodIn wsX5_letDaysPass (wsV RX5 61 RX4 yX4_get wsX4_get) := goodIn_app (goodIn_of _ (by decide +kernel)) ggX5_letDaysPass_X4_get
set_option maxRecDepth 20000 in
theorem ggX5_letDaysPass_X5_certifiedWithin : GoodIn wsX5_letDaysPass wsX5_certifiedWithin := goodIn_ca (goodIn_r _ [38, 39, 40, 41, 42, 7, 43, 9, 21, 44, 22, 23, 10, 11, 12, 13, 14, 15, 16, 45, 29, 46, 47, 48, 49, 50, 66, 67, 68, 69, 70, 71, 72, 73, 74, 75, 76, 77, 78] (by decide +kernel) (by decide +kernel)) (goodIn_sub (fun _ h => List.mem_cons_of_mem _ (List.mem_append_right _ h)) (by decide +kernel))
set_option maxRecDepth 20000 in
theorem gX5_letDaysPass_X5_certifiedWithin : GoodIn wsX5_letDaysPass (wsV RX5 83 RX5 yX5_certifiedWithin wsX5_certifiedWithin) := goodIn_app (goodIn_of _ (by decide +kernel)) ggX5_letDaysPass_X5_certifiedWithin
set_option maxRecDepth 20000 in
theorem ggX5_letDaysPass_X5_isNearOneOf : GoodIn wsX5_letDaysPass wsX5_isNearOneOf := goodIn_ca (goodIn_r _ [54, 55, 44, 45, 29, 46, 11, 12, 13, 14, 15, 16, 56, 57, 58, 59, 60, 61, 66, 67, 68, 69, 70, 71, 72, 73, 74, 75, 76, 77, 78] (by decide +kernel) (by decide +kernel)) (goodIn_sub (fun _ h => List.mem_cons_of_mem _ (List.mem_append_right _ h)) (by decide +kernel))
set_option maxRecDepth 20000 in
theorem gX5_letDaysPass_X5_isNearOneOf : GoodIn wsX5_letDaysPass (wsV RX5 99 RX5 yX5_isNearOneOf wsX5_isNearOneOf) := goodIn_app (goodIn_of _ (by decide +kernel)) ggX5_letDaysPass_X5_isNearOneOf
set_option maxRecDepth 20000 in
theorem ggX5_letDaysPass_X4_set : GoodIn wsX5_letDaysPass wsX4_set := goodIn_ca (goodIn_r _ [65, 16, 78] (by decide +kernel) (by decide +kernel)) (goodIn_sub (fun _ h => List.mem_cons_of_mem _ (List.mem_append_right _ h)) (by decide +kernel))
set_option maxRecDepth 20000 in
theorem gX5_letDaysPass_X4_set : GoodIn wsX5_letDaysPass (wsV RX5 65 RX4 yX4_set wsX4_set) := goodIn_app (goodIn_of _ (by decide +kernel)) ggX5_letDaysPass_X4_set
theorem dX5_letDaysPass_0 : decode cX5_letDaysPass 0 = .ok (.iconst 0, 1) := by decide +kernel
theorem dX5_letDaysPass_1 : decode cX5_letDaysPass 1 = .ok (.istore_n 2, 1) := by decide +kernel
theorem dX5_letDaysPass_2 : decode cX5_letDaysPass 2 = .ok (.iconst 0, 1) := by decide +kernel
theorem dX5_letDaysPass_3 : decode cX5_letDaysPass 3 = .ok (.istore_n 3, 1) := by decide +kernel
theorem dX5_letDaysPass_4 : decode cX5_letDaysPass 4 = .ok (.iload_n 3, 1) := by decide +kernel
theorem dX5_letDaysPass_5 : decode cX5_letDaysPass 5 = .ok (.iload_n 1, 1) := by decide +kernel
theorem dX5_letDaysPass_6 : decode cX5_letDaysPass 6 = .ok (.if_icmp .ge 83, 3) := by decide +kernel
theorem dX5_letDaysPass_9 : decode cX5_letDaysPass 9 = .ok (.aload_n 0, 1) := by decide +kernel
theorem dX5_letDaysPass_10 : decode cX5_letDaysPass 10 = .ok (.dup, 1) := by decide +kernel
theorem dX5_letDaysPass_11 : decode cX5_letDaysPass 11 = .ok (.getfield 52, 3) := by decide +kernel
theorem dX5_letDaysPass_14 : decode cX5_letDaysPass 14 = .ok (.iconst 1, 1) := by decide +kernel
theorem dX5_letDaysPass_15 : decode cX5_letDaysPass 15 = .ok (.iadd, 1) := by decide +kernel
theorem dX5_letDaysPass_16 : decode cX5_letDaysPass 16 = .ok (.putfield 52, 3) := by decide +kernel
theorem dX5_letDaysPass_19 : decode cX5_letDaysPass 19 = .ok (.aload_n 0, 1) := by decide +kernel
theorem dX5_letDaysPass_20 : decode cX5_letDaysPass 20 = .ok (.invokevirtual 102, 3) := by decide +kernel
theorem dX5_letDaysPass_23 : decode cX5_letDaysPass 23 = .ok (.aload_n 0, 1) := by decide +kernel
theorem dX5_letDaysPass_24 : decode cX5_letDaysPass 24 = .ok (.getfield 52, 3) := by decide +kernel
theorem dX5_letDaysPass_27 : decode cX5_letDaysPass 27 = .ok (.invokestatic 105, 3) := by decide +kernel
theorem dX5_letDaysPass_30 : decode cX5_letDaysPass 30 = .ok (.istore 4, 2) := by decide +kernel
theorem dX5_letDaysPass_32 : decode cX5_letDaysPass 32 = .ok (.aload_n 0, 1) := by decide +kernel
theorem dX5_letDaysPass_33 : decode cX5_letDaysPass 33 = .ok (.getfield 32, 3) := by decide +kernel
theorem dX5_letDaysPass_36 : decode cX5_letDaysPass 36 = .ok (.iload 4, 2) := by decide +kernel
theorem dX5_letDaysPass_38 : decode cX5_letDaysPass 38 = .ok (.invokevirtual 61, 3) := by decide +kernel
theorem dX5_letDaysPass_41 : decode cX5_letDaysPass 41 = .ok (.istore 5, 2) := by decide +kernel
theorem dX5_letDaysPass_43 : decode cX5_letDaysPass 43 = .ok (.iload 5, 2) := by decide +kernel
theorem dX5_letDaysPass_45 : decode cX5_letDaysPass 45 = .ok (.ifCond .le 38, 3) := by decide +kernel
theorem dX5_letDaysPass_48 : decode cX5_letDaysPass 48 = .ok (.aload_n 0, 1) := by decide +kernel
theorem dX5_letDaysPass_49 : decode cX5_letDaysPass 49 = .ok (.aload_n 0, 1) := by decide +kernel
theorem dX5_letDaysPass_50 : decode cX5_letDaysPass 50 = .ok (.bipush 10, 2) := by decide +kernel
theorem dX5_letDaysPass_52 : decode cX5_letDaysPass 52 = .ok (.aload_n 0, 1) := by decide +kernel
theorem dX5_letDaysPass_53 : decode cX5_letDaysPass 53 = .ok (.getfield 52, 3) := by decide +kernel
theorem dX5_letDaysPass_56 : decode cX5_letDaysPass 56 = .ok (.invokevirtual 83, 3) := by decide +kernel
theorem dX5_letDaysPass_59 : decode cX5_letDaysPass 59 = .ok (.iload 4, 2) := by decide +kernel
theorem dX5_letDaysPass_61 : decode cX5_letDaysPass 61 = .ok (.invokevirtual 99, 3) := by decide +kernel
theorem dX5_letDaysPass_64 : decode cX5_letDaysPass 64 = .ok (.ifCond .ne 19, 3) := by decide +kernel
theorem dX5_letDaysPass_67 : decode cX5_letDaysPass 67 = .ok (.aload_n 0, 1) := by decide +kernel
theorem dX5_letDaysPass_68 : decode cX5_letDaysPass 68 = .ok (.getfield 32, 3) := by decide +kernel
theorem dX5_letDaysPass_71 : decode cX5_letDaysPass 71 = .ok (.iload 4, 2) := by decide +kernel
theorem dX5_letDaysPass_73 : decode cX5_letDaysPass 73 = .ok (.iload 5, 2) := by decide +kernel
theorem dX5_letDaysPass_75 : decode cX5_letDaysPass 75 = .ok (.iconst 1, 1) := by decide +kernel
theorem dX5_letDaysPass_76 : decode cX5_letDaysPass 76 = .ok (.isub, 1) := by decide +kernel
theorem dX5_letDaysPass_77 : decode cX5_letDaysPass 77 = .ok (.invokevirtual 65, 3) := by decide +kernel
theorem dX5_letDaysPass_80 : decode cX5_letDaysPass 80 = .ok (.iinc 2 1, 3) := by decide +kernel
theorem dX5_letDaysPass_83 : decode cX5_letDaysPass 83 = .ok (.iinc 3 1, 3) := by decide +kernel
theorem dX5_letDaysPass_86 : decode cX5_letDaysPass 86 = .ok (.goto (-82), 3) := by decide +kernel
theorem dX5_letDaysPass_89 : decode cX5_letDaysPass 89 = .ok (.aload_n 0, 1) := by decide +kernel
theorem dX5_letDaysPass_90 : decode cX5_letDaysPass 90 = .ok (.dup, 1) := by decide +kernel
theorem dX5_letDaysPass_91 : decode cX5_letDaysPass 91 = .ok (.getfield 55, 3) := by decide +kernel
theorem dX5_letDaysPass_94 : decode cX5_letDaysPass 94 = .ok (.iload_n 2, 1) := by decide +kernel
theorem dX5_letDaysPass_95 : decode cX5_letDaysPass 95 = .ok (.iadd, 1) := by decide +kernel
theorem dX5_letDaysPass_96 : decode cX5_letDaysPass 96 = .ok (.putfield 55, 3) := by decide +kernel
theorem dX5_letDaysPass_99 : decode cX5_letDaysPass 99 = .ok (.iload_n 2, 1) := by decide +kernel
theorem dX5_letDaysPass_100 : decode cX5_letDaysPass 100 = .ok (.ireturn, 1) := by decide +kernel
set_option maxRecDepth 20000 in
theorem ggX5_dropExpired_X4_get : GoodIn wsX5_dropExpired wsX4_get := goodIn_ca (goodIn_r _ [8, 9, 34] (by decide +kernel) (by decide +kernel)) (goodIn_sub (fun _ h => List.mem_cons_of_mem _ (List.mem_append_right _ h)) (by decide +kernel))
set_option maxRecDepth 20000 in
theorem gX5_dropExpired_X4_get : GoodIn wsX5_dropExpired (wsV RX5 61 RX4 yX4_get wsX4_get) := goodIn_app (goodIn_of _ (by decide +kernel)) ggX5_dropExpired_X4_get
set_option maxRecDepth 20000 in
theorem ggX5_dropExpired_X5_removeCertificate : GoodIn wsX5_dropExpired wsX5_removeCertificate := goodIn_ca (goodIn_r _ [14, 15, 16, 17, 2, 1, 18, 19, 20, 7, 21, 9, 22, 23, 24, 25, 26, 27, 28, 29, 30, 31, 32, 33, 34] (by decide +kernel) (by decide +kernel)) (goodIn_sub (fun _ h => List.mem_cons_of_mem _ (List.mem_append_right _ h)) (by decide +kernel))
set_option maxRecDepth 20000 in
theorem gX5_dropExpired_X5_removeCertificate : GoodIn wsX5_dropExpired (wsV RX5 108 RX5 yX5_removeCertificate wsX5_removeCertificate) := goodIn_app (goodIn_of _ (by decide +kernel)) ggX5_dropExpired_X5_removeCertificate
theorem dX5_dropExpired_0 : decode cX5_dropExpired 0 = .ok (.aload_n 0, 1) := by decide +kernel
theorem dX5_dropExpired_1 : decode cX5_dropExpired 1 = .ok (.getfield 49, 3) := by decide +kernel
theorem dX5_dropExpired_4 : decode cX5_dropExpired 4 = .ok (.iconst 1, 1) := by decide +kernel
theorem dX5_dropExpired_5 : decode cX5_dropExpired 5 = .ok (.isub, 1) := by decide +kernel
theorem dX5_dropExpired_6 : decode cX5_dropExpired 6 = .ok (.istore_n 1, 1) := by decide +kernel
theorem dX5_dropExpired_7 : decode cX5_dropExpired 7 = .ok (.iload_n 1, 1) := by decide +kernel
theorem dX5_dropExpired_8 : decode cX5_dropExpired 8 = .ok (.ifCond .lt 29, 3) := by decide +kernel
theorem dX5_dropExpired_11 : decode cX5_dropExpired 11 = .ok (.aload_n 0, 1) := by decide +kernel
theorem dX5_dropExpired_12 : decode cX5_dropExpired 12 = .ok (.getfield 29, 3) := by decide +kernel
theorem dX5_dropExpired_15 : decode cX5_dropExpired 15 = .ok (.iload_n 1, 1) := by decide +kernel
theorem dX5_dropExpired_16 : decode cX5_dropExpired 16 = .ok (.invokevirtual 61, 3) := by decide +kernel
theorem dX5_dropExpired_19 : decode cX5_dropExpired 19 = .ok (.aload_n 0, 1) := by decide +kernel
theorem dX5_dropExpired_20 : decode cX5_dropExpired 20 = .ok (.getfield 52, 3) := by decide +kernel
theorem dX5_dropExpired_23 : decode cX5_dropExpired 23 = .ok (.if_icmp .ge 8, 3) := by decide +kernel
theorem dX5_dropExpired_26 : decode cX5_dropExpired 26 = .ok (.aload_n 0, 1) := by decide +kernel
theorem dX5_dropExpired_27 : decode cX5_dropExpired 27 = .ok (.iload_n 1, 1) := by decide +kernel
theorem dX5_dropExpired_28 : decode cX5_dropExpired 28 = .ok (.invokevirtual 108, 3) := by decide +kernel
theorem dX5_dropExpired_31 : decode cX5_dropExpired 31 = .ok (.iinc 1 (-1), 3) := by decide +kernel
theorem dX5_dropExpired_34 : decode cX5_dropExpired 34 = .ok (.goto (-27), 3) := by decide +kernel
theorem dX5_dropExpired_37 : decode cX5_dropExpired 37 = .ok (.return_, 1) := by decide +kernel
