theorem dX7_init_0 : decode cX7_init 0 = .ok (.aload_n 0, 1) := by decide +kernel
theorem dX7_init_1 : decode cX7_init 1 = .ok (.invokespecial 1, 3) := by decide +kernel
theorem dX7_init_4 : decode cX7_init 4 = .ok (.aload_n 0, 1) := by decide +kernel
theorem dX7_init_5 : decode cX7_init 5 = .ok (.bipush 112, 2) := by decide +kernel
theorem dX7_init_7 : decode cX7_init 7 = .ok (.newarray .int, 2) := by decide +kernel
theorem dX7_init_9 : decode cX7_init 9 = .ok (.putfield 7, 3) := by decide +kernel
theorem dX7_init_12 : decode cX7_init 12 = .ok (.aload_n 0, 1) := by decide +kernel
theorem dX7_init_13 : decode cX7_init 13 = .ok (.sipush 896, 3) := by decide +kernel
theorem dX7_init_16 : decode cX7_init 16 = .ok (.newarray .int, 2) := by decide +kernel
theorem dX7_init_18 : decode cX7_init 18 = .ok (.putfield 13, 3) := by decide +kernel
theorem dX7_init_21 : decode cX7_init 21 = .ok (.aload_n 0, 1) := by decide +kernel
theorem dX7_init_22 : decode cX7_init 22 = .ok (.bipush 112, 2) := by decide +kernel
theorem dX7_init_24 : decode cX7_init 24 = .ok (.newarray .int, 2) := by decide +kernel
theorem dX7_init_26 : decode cX7_init 26 = .ok (.putfield 16, 3) := by decide +kernel
theorem dX7_init_29 : decode cX7_init 29 = .ok (.aload_n 0, 1) := by decide +kernel
theorem dX7_init_30 : decode cX7_init 30 = .ok (.bipush 112, 2) := by decide +kernel
theorem dX7_init_32 : decode cX7_init 32 = .ok (.newarray .int, 2) := by decide +kernel
theorem dX7_init_34 : decode cX7_init 34 = .ok (.putfield 19, 3) := by decide +kernel
theorem dX7_init_37 : decode cX7_init 37 = .ok (.aload_n 0, 1) := by decide +kernel
theorem dX7_init_38 : decode cX7_init 38 = .ok (.bipush 112, 2) := by decide +kernel
theorem dX7_init_40 : decode cX7_init 40 = .ok (.newarray .int, 2) := by decide +kernel
theorem dX7_init_42 : decode cX7_init 42 = .ok (.putfield 22, 3) := by decide +kernel
theorem dX7_init_45 : decode cX7_init 45 = .ok (.aload_n 0, 1) := by decide +kernel
theorem dX7_init_46 : decode cX7_init 46 = .ok (.bipush 60, 2) := by decide +kernel
theorem dX7_init_48 : decode cX7_init 48 = .ok (.newarray .int, 2) := by decide +kernel
theorem dX7_init_50 : decode cX7_init 50 = .ok (.putfield 25, 3) := by decide +kernel
theorem dX7_init_53 : decode cX7_init 53 = .ok (.aload_n 0, 1) := by decide +kernel
theorem dX7_init_54 : decode cX7_init 54 = .ok (.iconst (-1), 1) := by decide +kernel
theorem dX7_init_55 : decode cX7_init 55 = .ok (.putfield 28, 3) := by decide +kernel
theorem dX7_init_58 : decode cX7_init 58 = .ok (.aload_n 0, 1) := by decide +kernel
theorem dX7_init_59 : decode cX7_init 59 = .ok (.bipush 40, 2) := by decide +kernel
theorem dX7_init_61 : decode cX7_init 61 = .ok (.newarray .char, 2) := by decide +kernel
theorem dX7_init_63 : decode cX7_init 63 = .ok (.putfield 32, 3) := by decide +kernel
theorem dX7_init_66 : decode cX7_init 66 = .ok (.aload_n 0, 1) := by decide +kernel
theorem dX7_init_67 : decode cX7_init 67 = .ok (.bipush 124, 2) := by decide +kernel
theorem dX7_init_69 : decode cX7_init 69 = .ok (.newarray .int, 2) := by decide +kernel
theorem dX7_init_71 : decode cX7_init 71 = .ok (.putfield 36, 3) := by decide +kernel
theorem dX7_init_74 : decode cX7_init 74 = .ok (.iconst 0, 1) := by decide +kernel
theorem dX7_init_75 : decode cX7_init 75 = .ok (.istore_n 1, 1) := by decide +kernel
theorem dX7_init_76 : decode cX7_init 76 = .ok (.iload_n 1, 1) := by decide +kernel
theorem dX7_init_77 : decode cX7_init 77 = .ok (.bipush 16, 2) := by decide +kernel
theorem dX7_init_79 : decode cX7_init 79 = .ok (.if_icmp .ge 20, 3) := by decide +kernel
theorem dX7_init_82 : decode cX7_init 82 = .ok (.aload_n 0, 1) := by decide +kernel
theorem dX7_init_83 : decode cX7_init 83 = .ok (.getfield 7, 3) := by decide +kernel
theorem dX7_init_86 : decode cX7_init 86 = .ok (.bipush 16, 2) := by decide +kernel
theorem dX7_init_88 : decode cX7_init 88 = .ok (.iload_n 1, 1) := by decide +kernel
theorem dX7_init_89 : decode cX7_init 89 = .ok (.iadd, 1) := by decide +kernel
theorem dX7_init_90 : decode cX7_init 90 = .ok (.bipush 9, 2) := by decide +kernel
theorem dX7_init_92 : decode cX7_init 92 = .ok (.iastore, 1) := by decide +kernel
theorem dX7_init_93 : decode cX7_init 93 = .ok (.iinc 1 1, 3) := by decide +kernel
theorem dX7_init_96 : decode cX7_init 96 = .ok (.goto (-20), 3) := by decide +kernel
theorem dX7_init_99 : decode cX7_init 99 = .ok (.return_, 1) := by decide +kernel
theorem dX7_thrown_0 : decode cX7_thrown 0 = .ok (.aload_n 0, 1) := by decide +kernel
theorem dX7_thrown_1 : decode cX7_thrown 1 = .ok (.getfield 39, 3) := by decide +kernel
theorem dX7_thrown_4 : decode cX7_thrown 4 = .ok (.ireturn, 1) := by decide +kernel
theorem dX7_fails_0 : decode cX7_fails 0 = .ok (.aload_n 0, 1) := by decide +kernel
theorem dX7_fails_1 : decode cX7_fails 1 = .ok (.iload_n 1, 1) := by decide +kernel
theorem dX7_fails_2 : decode cX7_fails 2 = .ok (.putfield 39, 3) := by decide +kernel
theorem dX7_fails_5 : decode cX7_fails 5 = .ok (.aload_n 0, 1) := by decide +kernel
theorem dX7_fails_6 : decode cX7_fails 6 = .ok (.iconst 0, 1) := by decide +kernel
theorem dX7_fails_7 : decode cX7_fails 7 = .ok (.putfield 42, 3) := by decide +kernel
theorem dX7_fails_10 : decode cX7_fails 10 = .ok (.iload_n 1, 1) := by decide +kernel
theorem dX7_fails_11 : decode cX7_fails 11 = .ok (.ifCond .le 7, 3) := by decide +kernel
theorem dX7_fails_14 : decode cX7_fails 14 = .ok (.iconst 1, 1) := by decide +kernel
theorem dX7_fails_15 : decode cX7_fails 15 = .ok (.goto 4, 3) := by decide +kernel
theorem dX7_fails_18 : decode cX7_fails 18 = .ok (.iconst 0, 1) := by decide +kernel
theorem dX7_fails_19 : decode cX7_fails 19 = .ok (.ireturn, 1) := by decide +kernel
theorem dX7_denies_0 : decode cX7_denies 0 = .ok (.aload_n 0, 1) := by decide +kernel
theorem dX7_denies_1 : decode cX7_denies 1 = .ok (.iload_n 1, 1) := by decide +kernel
theorem dX7_denies_2 : decode cX7_denies 2 = .ok (.putfield 39, 3) := by decide +kernel
theorem dX7_denies_5 : decode cX7_denies 5 = .ok (.aload_n 0, 1) := by decide +kernel
theorem dX7_denies_6 : decode cX7_denies 6 = .ok (.iconst 1, 1) := by decide +kernel
theorem dX7_denies_7 : decode cX7_denies 7 = .ok (.putfield 42, 3) := by decide +kernel
theorem dX7_denies_10 : decode cX7_denies 10 = .ok (.aload_n 0, 1) := by decide +kernel
theorem dX7_denies_11 : decode cX7_denies 11 = .ok (.iload_n 2, 1) := by decide +kernel
theorem dX7_denies_12 : decode cX7_denies 12 = .ok (.putfield 46, 3) := by decide +kernel
theorem dX7_denies_15 : decode cX7_denies 15 = .ok (.aload_n 0, 1) := by decide +kernel
theorem dX7_denies_16 : decode cX7_denies 16 = .ok (.iload_n 3, 1) := by decide +kernel
theorem dX7_denies_17 : decode cX7_denies 17 = .ok (.putfield 49, 3) := by decide +kernel
theorem dX7_denies_20 : decode cX7_denies 20 = .ok (.aload_n 0, 1) := by decide +kernel
theorem dX7_denies_21 : decode cX7_denies 21 = .ok (.iconst 0, 1) := by decide +kernel
theorem dX7_denies_22 : decode cX7_denies 22 = .ok (.putfield 52, 3) := by decide +kernel
theorem dX7_denies_25 : decode cX7_denies 25 = .ok (.iconst 0, 1) := by decide +kernel
theorem dX7_denies_26 : decode cX7_denies 26 = .ok (.ireturn, 1) := by decide +kernel
theorem dX7_in_0 : decode cX7_in 0 = .ok (.iload_n 0, 1) := by decide +kernel
theorem dX7_in_1 : decode cX7_in 1 = .ok (.iload_n 1, 1) := by decide +kernel
theorem dX7_in_2 : decode cX7_in 2 = .ok (.if_icmp .lt 12, 3) := by decide +kernel
theorem dX7_in_5 : decode cX7_in 5 = .ok (.iload_n 0, 1) := by decide +kernel
theorem dX7_in_6 : decode cX7_in 6 = .ok (.iload_n 2, 1) := by decide +kernel
theorem dX7_in_7 : decode cX7_in 7 = .ok (.if_icmp .gt 7, 3) := by decide +kernel
theorem dX7_in_10 : decode cX7_in 10 = .ok (.iconst 1, 1) := by decide +kernel
theorem dX7_in_11 : decode cX7_in 11 = .ok (.goto 4, 3) := by decide +kernel
theorem dX7_in_14 : decode cX7_in 14 = .ok (.iconst 0, 1) := by decide +kernel
theorem dX7_in_15 : decode cX7_in 15 = .ok (.ireturn, 1) := by decide +kernel
theorem dX7_copies_0 : decode cX7_copies 0 = .ok (.iconst 0, 1) := by decide +kernel
theorem dX7_copies_1 : decode cX7_copies 1 = .ok (.istore 4, 2) := by decide +kernel
theorem dX7_copies_3 : decode cX7_copies 3 = .ok (.iload 4, 2) := by decide +kernel
theorem dX7_copies_5 : decode cX7_copies 5 = .ok (.bipush 112, 2) := by decide +kernel
theorem dX7_copies_7 : decode cX7_copies 7 = .ok (.if_icmp .ge 21, 3) := by decide +kernel
theorem dX7_copies_10 : decode cX7_copies 10 = .ok (.aload_n 2, 1) := by decide +kernel
theorem dX7_copies_11 : decode cX7_copies 11 = .ok (.iload_n 3, 1) := by decide +kernel
theorem dX7_copies_12 : decode cX7_copies 12 = .ok (.iload 4, 2) := by decide +kernel
theorem dX7_copies_14 : decode cX7_copies 14 = .ok (.iadd, 1) := by decide +kernel
theorem dX7_copies_15 : decode cX7_copies 15 = .ok (.aload_n 0, 1) := by decide +kernel
theorem dX7_copies_16 : decode cX7_copies 16 = .ok (.iload_n 1, 1) := by decide +kernel
theorem dX7_copies_17 : decode cX7_copies 17 = .ok (.iload 4, 2) := by decide +kernel
theorem dX7_copies_19 : decode cX7_copies 19 = .ok (.iadd, 1) := by decide +kernel
theorem dX7_copies_20 : decode cX7_copies 20 = .ok (.iaload, 1) := by decide +kernel
theorem dX7_copies_21 : decode cX7_copies 21 = .ok (.iastore, 1) := by decide +kernel
theorem dX7_copies_22 : decode cX7_copies 22 = .ok (.iinc 4 1, 3) := by decide +kernel
theorem dX7_copies_25 : decode cX7_copies 25 = .ok (.goto (-22), 3) := by decide +kernel
theorem dX7_copies_28 : decode cX7_copies 28 = .ok (.return_, 1) := by decide +kernel
set_option maxRecDepth 20000 in
theorem ggX7_keeps_X7_copies : GoodIn wsX7_keeps wsX7_copies := goodIn_ca (goodIn_r _ [8] (by decide +kernel) (by decide +kernel)) (goodIn_sub (fun _ h => List.mem_cons_of_mem _ (List.mem_append_right _ h)) (by decide +kernel))
set_option maxRecDepth 20000 in
theorem gX7_keeps_X7_copies : GoodIn wsX7_keeps (va_wsS RX7 61 yX7_copies wsX7_copies) := goodIn_app (goodIn_of _ (by decide +kernel)) ggX7_keeps_X7_copies
theorem dX7_keeps_0 : decode cX7_keeps 0 = .ok (.aload_n 0, 1) := by decide +kernel
theorem dX7_keeps_1 : decode cX7_keeps 1 = .ok (.iconst 0, 1) := by decide +kernel
theorem dX7_keeps_2 : decode cX7_keeps 2 = .ok (.putfield 39, 3) := by decide +kernel
theorem dX7_keeps_5 : decode cX7_keeps 5 = .ok (.aload_n 0, 1) := by decide +kernel
theorem dX7_keeps_6 : decode cX7_keeps 6 = .ok (.getfield 55, 3) := by decide +kernel
theorem dX7_keeps_9 : decode cX7_keeps 9 = .ok (.ifCond .eq 4, 3) := by decide +kernel
theorem dX7_keeps_12 : decode cX7_keeps 12 = .ok (.return_, 1) := by decide +kernel
theorem dX7_keeps_13 : decode cX7_keeps 13 = .ok (.aload_n 0, 1) := by decide +kernel
theorem dX7_keeps_14 : decode cX7_keeps 14 = .ok (.getfield 58, 3) := by decide +kernel
theorem dX7_keeps_17 : decode cX7_keeps 17 = .ok (.bipush 8, 2) := by decide +kernel
theorem dX7_keeps_19 : decode cX7_keeps 19 = .ok (.if_icmp .ne 43, 3) := by decide +kernel
theorem dX7_keeps_22 : decode cX7_keeps 22 = .ok (.iconst 0, 1) := by decide +kernel
theorem dX7_keeps_23 : decode cX7_keeps 23 = .ok (.istore_n 2, 1) := by decide +kernel
theorem dX7_keeps_24 : decode cX7_keeps 24 = .ok (.iload_n 2, 1) := by decide +kernel
theorem dX7_keeps_25 : decode cX7_keeps 25 = .ok (.sipush 784, 3) := by decide +kernel
theorem dX7_keeps_28 : decode cX7_keeps 28 = .ok (.if_icmp .ge 24, 3) := by decide +kernel
theorem dX7_keeps_31 : decode cX7_keeps 31 = .ok (.aload_n 0, 1) := by decide +kernel
theorem dX7_keeps_32 : decode cX7_keeps 32 = .ok (.getfield 13, 3) := by decide +kernel
theorem dX7_keeps_35 : decode cX7_keeps 35 = .ok (.iload_n 2, 1) := by decide +kernel
theorem dX7_keeps_36 : decode cX7_keeps 36 = .ok (.aload_n 0, 1) := by decide +kernel
theorem dX7_keeps_37 : decode cX7_keeps 37 = .ok (.getfield 13, 3) := by decide +kernel
theorem dX7_keeps_40 : decode cX7_keeps 40 = .ok (.iload_n 2, 1) := by decide +kernel
theorem dX7_keeps_41 : decode cX7_keeps 41 = .ok (.bipush 112, 2) := by decide +kernel
theorem dX7_keeps_43 : decode cX7_keeps 43 = .ok (.iadd, 1) := by decide +kernel
theorem dX7_keeps_44 : decode cX7_keeps 44 = .ok (.iaload, 1) := by decide +kernel
theorem dX7_keeps_45 : decode cX7_keeps 45 = .ok (.iastore, 1) := by decide +kernel
theorem dX7_keeps_46 : decode cX7_keeps 46 = .ok (.iinc 2 1, 3) := by decide +kernel
theorem dX7_keeps_49 : decode cX7_keeps 49 = .ok (.goto (-25), 3) := by decide +kernel
theorem dX7_keeps_52 : decode cX7_keeps 52 = .ok (.aload_n 0, 1) := by decide +kernel
theorem dX7_keeps_53 : decode cX7_keeps 53 = .ok (.dup, 1) := by decide +kernel
theorem dX7_keeps_54 : decode cX7_keeps 54 = .ok (.getfield 58, 3) := by decide +kernel
theorem dX7_keeps_57 : decode cX7_keeps 57 = .ok (.iconst 1, 1) := by decide +kernel
theorem dX7_keeps_58 : decode cX7_keeps 58 = .ok (.isub, 1) := by decide +kernel
theorem dX7_keeps_59 : decode cX7_keeps 59 = .ok (.putfield 58, 3) := by decide +kernel
theorem dX7_keeps_62 : decode cX7_keeps 62 = .ok (.aload_n 1, 1) := by decide +kernel
theorem dX7_keeps_63 : decode cX7_keeps 63 = .ok (.iconst 0, 1) := by decide +kernel
theorem dX7_keeps_64 : decode cX7_keeps 64 = .ok (.aload_n 0, 1) := by decide +kernel
theorem dX7_keeps_65 : decode cX7_keeps 65 = .ok (.getfield 13, 3) := by decide +kernel
theorem dX7_keeps_68 : decode cX7_keeps 68 = .ok (.bipush 112, 2) := by decide +kernel
theorem dX7_keeps_70 : decode cX7_keeps 70 = .ok (.aload_n 0, 1) := by decide +kernel
theorem dX7_keeps_71 : decode cX7_keeps 71 = .ok (.getfield 58, 3) := by decide +kernel
theorem dX7_keeps_74 : decode cX7_keeps 74 = .ok (.imul, 1) := by decide +kernel
theorem dX7_keeps_75 : decode cX7_keeps 75 = .ok (.invokestatic 61, 3) := by decide +kernel
theorem dX7_keeps_78 : decode cX7_keeps 78 = .ok (.aload_n 0, 1) := by decide +kernel
theorem dX7_keeps_79 : decode cX7_keeps 79 = .ok (.dup, 1) := by decide +kernel
theorem dX7_keeps_80 : decode cX7_keeps 80 = .ok (.getfield 58, 3) := by decide +kernel
theorem dX7_keeps_83 : decode cX7_keeps 83 = .ok (.iconst 1, 1) := by decide +kernel
theorem dX7_keeps_84 : decode cX7_keeps 84 = .ok (.iadd, 1) := by decide +kernel
theorem dX7_keeps_85 : decode cX7_keeps 85 = .ok (.putfield 58, 3) := by decide +kernel
theorem dX7_keeps_88 : decode cX7_keeps 88 = .ok (.return_, 1) := by decide +kernel
set_option maxRecDepth 20000 in
theorem ggX7_isField_X7_in : GoodIn wsX7_isField wsX7_in := goodIn_r _ [4] (by decide +kernel) (by decide +kernel)
set_option maxRecDepth 20000 in
theorem gX7_isField_X7_in : GoodIn wsX7_isField (va_wsS RX7 65 yX7_in wsX7_in) := goodIn_app (goodIn_of _ (by decide +kernel)) ggX7_isField_X7_in
theorem dX7_isField_0 : decode cX7_isField 0 = .ok (.iload_n 0, 1) := by decide +kernel
theorem dX7_isField_1 : decode cX7_isField 1 = .ok (.iconst 0, 1) := by decide +kernel
theorem dX7_isField_2 : decode cX7_isField 2 = .ok (.bipush 15, 2) := by decide +kernel
theorem dX7_isField_4 : decode cX7_isField 4 = .ok (.invokestatic 65, 3) := by decide +kernel
theorem dX7_isField_7 : decode cX7_isField 7 = .ok (.ireturn, 1) := by decide +kernel
set_option maxRecDepth 20000 in
theorem ggX7_isCrow_X7_in : GoodIn wsX7_isCrow wsX7_in := goodIn_r _ [5] (by decide +kernel) (by decide +kernel)
set_option maxRecDepth 20000 in
theorem gX7_isCrow_X7_in : GoodIn wsX7_isCrow (va_wsS RX7 65 yX7_in wsX7_in) := goodIn_app (goodIn_of _ (by decide +kernel)) ggX7_isCrow_X7_in
theorem dX7_isCrow_0 : decode cX7_isCrow 0 = .ok (.iload_n 1, 1) := by decide +kernel
theorem dX7_isCrow_1 : decode cX7_isCrow 1 = .ok (.iconst 0, 1) := by decide +kernel
theorem dX7_isCrow_2 : decode cX7_isCrow 2 = .ok (.aload_n 0, 1) := by decide +kernel
theorem dX7_isCrow_3 : decode cX7_isCrow 3 = .ok (.getfield 7, 3) := by decide +kernel
theorem dX7_isCrow_6 : decode cX7_isCrow 6 = .ok (.iconst 0, 1) := by decide +kernel
theorem dX7_isCrow_7 : decode cX7_isCrow 7 = .ok (.iaload, 1) := by decide +kernel
theorem dX7_isCrow_8 : decode cX7_isCrow 8 = .ok (.iconst 1, 1) := by decide +kernel
theorem dX7_isCrow_9 : decode cX7_isCrow 9 = .ok (.isub, 1) := by decide +kernel
theorem dX7_isCrow_10 : decode cX7_isCrow 10 = .ok (.invokestatic 65, 3) := by decide +kernel
theorem dX7_isCrow_13 : decode cX7_isCrow 13 = .ok (.ireturn, 1) := by decide +kernel
set_option maxRecDepth 20000 in
theorem ggX7_isNone_X7_isCrow : GoodIn wsX7_isNone wsX7_isCrow := goodIn_ca (goodIn_r _ [5, 6, 7, 8, 4, 9, 16, 17, 18, 19, 20, 21, 22, 23, 24, 25, 26, 27, 28, 29, 30, 31, 32, 33, 34, 35, 36] (by decide +kernel) (by decide +kernel)) (goodIn_sub (fun _ h => List.mem_cons_of_mem _ (List.mem_append_right _ h)) (by decide +kernel))
set_option maxRecDepth 20000 in
theorem gX7_isNone_X7_isCrow : GoodIn wsX7_isNone (wsV RX7 69 RX7 yX7_isCrow wsX7_isCrow) := goodIn_app (goodIn_of _ (by decide +kernel)) ggX7_isNone_X7_isCrow
set_option maxRecDepth 20000 in
theorem ggX7_isNone_X7_fails : GoodIn wsX7_isNone wsX7_fails := goodIn_r _ [13, 14, 15, 16, 17, 18, 19, 20, 21, 22, 23, 24, 25, 26, 27, 28, 29, 30, 31, 32, 33, 34, 35, 36] (by decide +kernel) (by decide +kernel)
set_option maxRecDepth 20000 in
theorem gX7_isNone_X7_fails : GoodIn wsX7_isNone (wsV RX7 73 RX7 yX7_fails wsX7_fails) := goodIn_app (goodIn_of _ (by decide +kernel)) ggX7_isNone_X7_fails
theorem dX7_isNone_0 : decode cX7_isNone 0 = .ok (.aload_n 0, 1) := by decide +kernel
theorem dX7_isNone_1 : decode cX7_isNone 1 = .ok (.aload_n 0, 1) := by decide +kernel
theorem dX7_isNone_2 : decode cX7_isNone 2 = .ok (.iload_n 1, 1) := by decide +kernel
theorem dX7_isNone_3 : decode cX7_isNone 3 = .ok (.invokevirtual 69, 3) := by decide +kernel
theorem dX7_isNone_6 : decode cX7_isNone 6 = .ok (.ifCond .eq 7, 3) := by decide +kernel
theorem dX7_isNone_9 : decode cX7_isNone 9 = .ok (.iconst 0, 1) := by decide +kernel
theorem dX7_isNone_10 : decode cX7_isNone 10 = .ok (.goto 4, 3) := by decide +kernel
theorem dX7_isNone_13 : decode cX7_isNone 13 = .ok (.iconst 1, 1) := by decide +kernel
theorem dX7_isNone_14 : decode cX7_isNone 14 = .ok (.invokevirtual 73, 3) := by decide +kernel
theorem dX7_isNone_17 : decode cX7_isNone 17 = .ok (.ireturn, 1) := by decide +kernel
theorem dX7_has_0 : decode cX7_has 0 = .ok (.iload_n 0, 1) := by decide +kernel
theorem dX7_has_1 : decode cX7_has 1 = .ok (.iload_n 1, 1) := by decide +kernel
theorem dX7_has_2 : decode cX7_has 2 = .ok (.ishr, 1) := by decide +kernel
theorem dX7_has_3 : decode cX7_has 3 = .ok (.iconst 1, 1) := by decide +kernel
theorem dX7_has_4 : decode cX7_has 4 = .ok (.iand, 1) := by decide +kernel
theorem dX7_has_5 : decode cX7_has 5 = .ok (.iconst 1, 1) := by decide +kernel
theorem dX7_has_6 : decode cX7_has 6 = .ok (.if_icmp .ne 7, 3) := by decide +kernel
theorem dX7_has_9 : decode cX7_has 9 = .ok (.iconst 1, 1) := by decide +kernel
theorem dX7_has_10 : decode cX7_has 10 = .ok (.goto 4, 3) := by decide +kernel
theorem dX7_has_13 : decode cX7_has 13 = .ok (.iconst 0, 1) := by decide +kernel
theorem dX7_has_14 : decode cX7_has 14 = .ok (.ireturn, 1) := by decide +kernel
theorem dX7_bits_0 : decode cX7_bits 0 = .ok (.iconst 0, 1) := by decide +kernel
theorem dX7_bits_1 : decode cX7_bits 1 = .ok (.istore_n 1, 1) := by decide +kernel
theorem dX7_bits_2 : decode cX7_bits 2 = .ok (.iconst 0, 1) := by decide +kernel
theorem dX7_bits_3 : decode cX7_bits 3 = .ok (.istore_n 2, 1) := by decide +kernel
theorem dX7_bits_4 : decode cX7_bits 4 = .ok (.iload_n 2, 1) := by decide +kernel
theorem dX7_bits_5 : decode cX7_bits 5 = .ok (.bipush 16, 2) := by decide +kernel
theorem dX7_bits_7 : decode cX7_bits 7 = .ok (.if_icmp .ge 17, 3) := by decide +kernel
theorem dX7_bits_10 : decode cX7_bits 10 = .ok (.iload_n 1, 1) := by decide +kernel
theorem dX7_bits_11 : decode cX7_bits 11 = .ok (.iload_n 0, 1) := by decide +kernel
theorem dX7_bits_12 : decode cX7_bits 12 = .ok (.iload_n 2, 1) := by decide +kernel
theorem dX7_bits_13 : decode cX7_bits 13 = .ok (.ishr, 1) := by decide +kernel
theorem dX7_bits_14 : decode cX7_bits 14 = .ok (.iconst 1, 1) := by decide +kernel
theorem dX7_bits_15 : decode cX7_bits 15 = .ok (.iand, 1) := by decide +kernel
theorem dX7_bits_16 : decode cX7_bits 16 = .ok (.iadd, 1) := by decide +kernel
theorem dX7_bits_17 : decode cX7_bits 17 = .ok (.istore_n 1, 1) := by decide +kernel
theorem dX7_bits_18 : decode cX7_bits 18 = .ok (.iinc 2 1, 3) := by decide +kernel
theorem dX7_bits_21 : decode cX7_bits 21 = .ok (.goto (-17), 3) := by decide +kernel
theorem dX7_bits_24 : decode cX7_bits 24 = .ok (.iload_n 1, 1) := by decide +kernel
theorem dX7_bits_25 : decode cX7_bits 25 = .ok (.ireturn, 1) := by decide +kernel
theorem dX7_standing_0 : decode cX7_standing 0 = .ok (.iconst 0, 1) := by decide +kernel
theorem dX7_standing_1 : decode cX7_standing 1 = .ok (.istore_n 2, 1) := by decide +kernel
theorem dX7_standing_2 : decode cX7_standing 2 = .ok (.iload_n 2, 1) := by decide +kernel
theorem dX7_standing_3 : decode cX7_standing 3 = .ok (.aload_n 0, 1) := by decide +kernel
theorem dX7_standing_4 : decode cX7_standing 4 = .ok (.getfield 7, 3) := by decide +kernel
theorem dX7_standing_7 : decode cX7_standing 7 = .ok (.iconst 0, 1) := by decide +kernel
theorem dX7_standing_8 : decode cX7_standing 8 = .ok (.iaload, 1) := by decide +kernel
theorem dX7_standing_9 : decode cX7_standing 9 = .ok (.if_icmp .ge 23, 3) := by decide +kernel
theorem dX7_standing_12 : decode cX7_standing 12 = .ok (.aload_n 0, 1) := by decide +kernel
theorem dX7_standing_13 : decode cX7_standing 13 = .ok (.getfield 7, 3) := by decide +kernel
theorem dX7_standing_16 : decode cX7_standing 16 = .ok (.iconst 5, 1) := by decide +kernel
theorem dX7_standing_17 : decode cX7_standing 17 = .ok (.iload_n 2, 1) := by decide +kernel
theorem dX7_standing_18 : decode cX7_standing 18 = .ok (.iadd, 1) := by decide +kernel
theorem dX7_standing_19 : decode cX7_standing 19 = .ok (.iaload, 1) := by decide +kernel
theorem dX7_standing_20 : decode cX7_standing 20 = .ok (.iload_n 1, 1) := by decide +kernel
theorem dX7_standing_21 : decode cX7_standing 21 = .ok (.if_icmp .ne 5, 3) := by decide +kernel
theorem dX7_standing_24 : decode cX7_standing 24 = .ok (.iload_n 2, 1) := by decide +kernel
theorem dX7_standing_25 : decode cX7_standing 25 = .ok (.ireturn, 1) := by decide +kernel
theorem dX7_standing_26 : decode cX7_standing 26 = .ok (.iinc 2 1, 3) := by decide +kernel
theorem dX7_standing_29 : decode cX7_standing 29 = .ok (.goto (-27), 3) := by decide +kernel
theorem dX7_standing_32 : decode cX7_standing 32 = .ok (.iconst (-1), 1) := by decide +kernel
theorem dX7_standing_33 : decode cX7_standing 33 = .ok (.ireturn, 1) := by decide +kernel
set_option maxRecDepth 20000 in
theorem ggX7_register_X7_isField : GoodIn wsX7_register wsX7_isField := goodIn_r _ [5, 6, 7, 4, 8] (by decide +kernel) (by decide +kernel)
set_option maxRecDepth 20000 in
theorem gX7_register_X7_isField : GoodIn wsX7_register (va_wsS RX7 76 yX7_isField wsX7_isField) := goodIn_app (goodIn_of _ (by decide +kernel)) ggX7_register_X7_isField
set_option maxRecDepth 20000 in
theorem ggX7_register_X7_fails : GoodIn wsX7_register wsX7_fails := goodIn_r _ [12, 13, 14, 36, 37, 38, 39, 40, 41, 42, 43, 44, 45, 46, 47, 48, 49, 50, 51, 52, 53, 54, 55, 56] (by decide +kernel) (by decide +kernel)
set_option maxRecDepth 20000 in
theorem gX7_register_X7_fails : GoodIn wsX7_register (wsV RX7 73 RX7 yX7_fails wsX7_fails) := goodIn_app (goodIn_of _ (by decide +kernel)) ggX7_register_X7_fails
set_option maxRecDepth 20000 in
theorem ggX7_register_X7_denies : GoodIn wsX7_register wsX7_denies := goodIn_r _ [18, 13, 14, 19, 20, 21, 36, 37, 38, 39, 40, 41, 42, 43, 44, 45, 46, 47, 48, 49, 50, 51, 52, 53, 54, 55, 56] (by decide +kernel) (by decide +kernel)
set_option maxRecDepth 20000 in
theorem gX7_register_X7_denies : GoodIn wsX7_register (wsV RX7 79 RX7 yX7_denies wsX7_denies) := goodIn_app (goodIn_of _ (by decide +kernel)) ggX7_register_X7_denies
set_option maxRecDepth 20000 in
theorem ggX7_register_X7_standing : GoodIn wsX7_register wsX7_standing := goodIn_ca (goodIn_r _ [25, 1, 36, 37, 38, 39, 40, 41, 42, 43, 44, 45, 46, 47, 48, 49, 50, 51, 52, 53, 54, 55, 56] (by decide +kernel) (by decide +kernel)) (goodIn_sub (fun _ h => List.mem_cons_of_mem _ (List.mem_append_right _ h)) (by decide +kernel))
set_option maxRecDepth 20000 in
theorem gX7_register_X7_standing : GoodIn wsX7_register (wsV RX7 83 RX7 yX7_standing wsX7_standing) := goodIn_app (goodIn_of _ (by decide +kernel)) ggX7_register_X7_standing
set_option maxRecDepth 20000 in
theorem ggX7_register_X7_keeps : GoodIn wsX7_register wsX7_keeps := goodIn_ca (goodIn_r _ [29, 13, 30, 31, 32, 33, 34, 4, 35, 36, 37, 38, 39, 40, 41, 42, 43, 44, 45, 46, 47, 48, 49, 50, 51, 52, 53, 54, 55, 56] (by decide +kernel) (by decide +kernel)) (goodIn_sub (fun _ h => List.mem_cons_of_mem _ (List.mem_append_right _ h)) (by decide +kernel))
set_option maxRecDepth 20000 in
theorem gX7_register_X7_keeps : GoodIn wsX7_register (wsV RX7 87 RX7 yX7_keeps wsX7_keeps) := goodIn_app (goodIn_of _ (by decide +kernel)) ggX7_register_X7_keeps
theorem dX7_register_0 : decode cX7_register 0 = .ok (.aload_n 0, 1) := by decide +kernel
theorem dX7_register_1 : decode cX7_register 1 = .ok (.iload_n 1, 1) := by decide +kernel
theorem dX7_register_2 : decode cX7_register 2 = .ok (.invokestatic 76, 3) := by decide +kernel
theorem dX7_register_5 : decode cX7_register 5 = .ok (.ifCond .eq 7, 3) := by decide +kernel
theorem dX7_register_8 : decode cX7_register 8 = .ok (.iconst 0, 1) := by decide +kernel
theorem dX7_register_9 : decode cX7_register 9 = .ok (.goto 4, 3) := by decide +kernel
theorem dX7_register_12 : decode cX7_register 12 = .ok (.iconst 1, 1) := by decide +kernel
theorem dX7_register_13 : decode cX7_register 13 = .ok (.invokevirtual 73, 3) := by decide +kernel
theorem dX7_register_16 : decode cX7_register 16 = .ok (.ifCond .eq 5, 3) := by decide +kernel
theorem dX7_register_19 : decode cX7_register 19 = .ok (.iconst 0, 1) := by decide +kernel
theorem dX7_register_20 : decode cX7_register 20 = .ok (.ireturn, 1) := by decide +kernel
theorem dX7_register_21 : decode cX7_register 21 = .ok (.aload_n 0, 1) := by decide +kernel
theorem dX7_register_22 : decode cX7_register 22 = .ok (.getfield 7, 3) := by decide +kernel
theorem dX7_register_25 : decode cX7_register 25 = .ok (.iconst 0, 1) := by decide +kernel
theorem dX7_register_26 : decode cX7_register 26 = .ok (.iaload, 1) := by decide +kernel
theorem dX7_register_27 : decode cX7_register 27 = .ok (.bipush 10, 2) := by decide +kernel
theorem dX7_register_29 : decode cX7_register 29 = .ok (.if_icmp .ne 12, 3) := by decide +kernel
theorem dX7_register_32 : decode cX7_register 32 = .ok (.aload_n 0, 1) := by decide +kernel
theorem dX7_register_33 : decode cX7_register 33 = .ok (.iconst 2, 1) := by decide +kernel
theorem dX7_register_34 : decode cX7_register 34 = .ok (.iconst 1, 1) := by decide +kernel
theorem dX7_register_35 : decode cX7_register 35 = .ok (.bipush 10, 2) := by decide +kernel
theorem dX7_register_37 : decode cX7_register 37 = .ok (.invokevirtual 79, 3) := by decide +kernel
theorem dX7_register_40 : decode cX7_register 40 = .ok (.ireturn, 1) := by decide +kernel
theorem dX7_register_41 : decode cX7_register 41 = .ok (.aload_n 0, 1) := by decide +kernel
theorem dX7_register_42 : decode cX7_register 42 = .ok (.iload_n 1, 1) := by decide +kernel
theorem dX7_register_43 : decode cX7_register 43 = .ok (.invokevirtual 83, 3) := by decide +kernel
theorem dX7_register_46 : decode cX7_register 46 = .ok (.ifCond .lt 15, 3) := by decide +kernel
theorem dX7_register_49 : decode cX7_register 49 = .ok (.aload_n 0, 1) := by decide +kernel
theorem dX7_register_50 : decode cX7_register 50 = .ok (.iconst 2, 1) := by decide +kernel
theorem dX7_register_51 : decode cX7_register 51 = .ok (.iconst 2, 1) := by decide +kernel
theorem dX7_register_52 : decode cX7_register 52 = .ok (.aload_n 0, 1) := by decide +kernel
theorem dX7_register_53 : decode cX7_register 53 = .ok (.iload_n 1, 1) := by decide +kernel
theorem dX7_register_54 : decode cX7_register 54 = .ok (.invokevirtual 83, 3) := by decide +kernel
theorem dX7_register_57 : decode cX7_register 57 = .ok (.invokevirtual 79, 3) := by decide +kernel
theorem dX7_register_60 : decode cX7_register 60 = .ok (.ireturn, 1) := by decide +kernel
theorem dX7_register_61 : decode cX7_register 61 = .ok (.aload_n 0, 1) := by decide +kernel
theorem dX7_register_62 : decode cX7_register 62 = .ok (.aload_n 0, 1) := by decide +kernel
theorem dX7_register_63 : decode cX7_register 63 = .ok (.getfield 7, 3) := by decide +kernel
theorem dX7_register_66 : decode cX7_register 66 = .ok (.invokevirtual 87, 3) := by decide +kernel
theorem dX7_register_69 : decode cX7_register 69 = .ok (.aload_n 0, 1) := by decide +kernel
theorem dX7_register_70 : decode cX7_register 70 = .ok (.getfield 7, 3) := by decide +kernel
theorem dX7_register_73 : decode cX7_register 73 = .ok (.iconst 5, 1) := by decide +kernel
theorem dX7_register_74 : decode cX7_register 74 = .ok (.aload_n 0, 1) := by decide +kernel
theorem dX7_register_75 : decode cX7_register 75 = .ok (.getfield 7, 3) := by decide +kernel
theorem dX7_register_78 : decode cX7_register 78 = .ok (.iconst 0, 1) := by decide +kernel
theorem dX7_register_79 : decode cX7_register 79 = .ok (.iaload, 1) := by decide +kernel
theorem dX7_register_80 : decode cX7_register 80 = .ok (.iadd, 1) := by decide +kernel
theorem dX7_register_81 : decode cX7_register 81 = .ok (.iload_n 1, 1) := by decide +kernel
theorem dX7_register_82 : decode cX7_register 82 = .ok (.iastore, 1) := by decide +kernel
theorem dX7_register_83 : decode cX7_register 83 = .ok (.aload_n 0, 1) := by decide +kernel
theorem dX7_register_84 : decode cX7_register 84 = .ok (.getfield 7, 3) := by decide +kernel
theorem dX7_register_87 : decode cX7_register 87 = .ok (.iconst 0, 1) := by decide +kernel
theorem dX7_register_88 : decode cX7_register 88 = .ok (.dup2, 1) := by decide +kernel
theorem dX7_register_89 : decode cX7_register 89 = .ok (.iaload, 1) := by decide +kernel
theorem dX7_register_90 : decode cX7_register 90 = .ok (.iconst 1, 1) := by decide +kernel
theorem dX7_register_91 : decode cX7_register 91 = .ok (.iadd, 1) := by decide +kernel
theorem dX7_register_92 : decode cX7_register 92 = .ok (.iastore, 1) := by decide +kernel
theorem dX7_register_93 : decode cX7_register 93 = .ok (.aload_n 0, 1) := by decide +kernel
theorem dX7_register_94 : decode cX7_register 94 = .ok (.getfield 7, 3) := by decide +kernel
theorem dX7_register_97 : decode cX7_register 97 = .ok (.iconst 0, 1) := by decide +kernel
theorem dX7_register_98 : decode cX7_register 98 = .ok (.iaload, 1) := by decide +kernel
theorem dX7_register_99 : decode cX7_register 99 = .ok (.iconst 1, 1) := by decide +kernel
theorem dX7_register_100 : decode cX7_register 100 = .ok (.isub, 1) := by decide +kernel
theorem dX7_register_101 : decode cX7_register 101 = .ok (.ireturn, 1) := by decide +kernel
set_option maxRecDepth 20000 in
theorem ggX7_move_X7_isCrow : GoodIn wsX7_move wsX7_isCrow := goodIn_ca (goodIn_r _ [6, 1, 7, 8, 5, 9, 40, 41, 42, 43, 44, 45, 46, 47, 48, 49, 50, 51, 52, 53, 54, 55, 56, 57, 58, 59, 60] (by decide +kernel) (by decide +kernel)) (goodIn_sub (fun _ h => List.mem_cons_of_mem _ (List.mem_append_right _ h)) (by decide +kernel))
set_option maxRecDepth 20000 in
theorem gX7_move_X7_isCrow : GoodIn wsX7_move (wsV RX7 69 RX7 yX7_isCrow wsX7_isCrow) := goodIn_app (goodIn_of _ (by decide +kernel)) ggX7_move_X7_isCrow
set_option maxRecDepth 20000 in
theorem ggX7_move_X7_isField : GoodIn wsX7_move wsX7_isField := goodIn_r _ [12, 7, 8, 5, 9] (by decide +kernel) (by decide +kernel)
set_option maxRecDepth 20000 in
theorem gX7_move_X7_isField : GoodIn wsX7_move (va_wsS RX7 76 yX7_isField wsX7_isField) := goodIn_app (goodIn_of _ (by decide +kernel)) ggX7_move_X7_isField
set_option maxRecDepth 20000 in
theorem ggX7_move_X7_fails : GoodIn wsX7_move wsX7_fails := goodIn_r _ [16, 17, 18, 40, 41, 42, 43, 44, 45, 46, 47, 48, 49, 50, 51, 52, 53, 54, 55, 56, 57, 58, 59, 60] (by decide +kernel) (by decide +kernel)
set_option maxRecDepth 20000 in
theorem gX7_move_X7_fails : GoodIn wsX7_move (wsV RX7 73 RX7 yX7_fails wsX7_fails) := goodIn_app (goodIn_of _ (by decide +kernel)) ggX7_move_X7_fails
set_option maxRecDepth 20000 in
theorem ggX7_move_X7_standing : GoodIn wsX7_move wsX7_standing := goodIn_ca (goodIn_r _ [22, 1, 40, 41, 42, 43, 44, 45, 46, 47, 48, 49, 50, 51, 52, 53, 54, 55, 56, 57, 58, 59, 60] (by decide +kernel) (by decide +kernel)) (goodIn_sub (fun _ h => List.mem_cons_of_mem _ (List.mem_append_right _ h)) (by decide +kernel))
set_option maxRecDepth 20000 in
theorem gX7_move_X7_standing : GoodIn wsX7_move (wsV RX7 83 RX7 yX7_standing wsX7_standing) := goodIn_app (goodIn_of _ (by decide +kernel)) ggX7_move_X7_standing
set_option maxRecDepth 20000 in
theorem ggX7_move_X7_denies : GoodIn wsX7_move wsX7_denies := goodIn_r _ [26, 17, 18, 27, 28, 29, 40, 41, 42, 43, 44, 45, 46, 47, 48, 49, 50, 51, 52, 53, 54, 55, 56, 57, 58, 59, 60] (by decide +kernel) (by decide +kernel)
set_option maxRecDepth 20000 in
theorem gX7_move_X7_denies : GoodIn wsX7_move (wsV RX7 79 RX7 yX7_denies wsX7_denies) := goodIn_app (goodIn_of _ (by decide +kernel)) ggX7_move_X7_denies
set_option maxRecDepth 20000 in
theorem ggX7_move_X7_keeps : GoodIn wsX7_move wsX7_keeps := goodIn_ca (goodIn_r _ [33, 17, 34, 35, 36, 37, 38, 5, 39, 40, 41, 42, 43, 44, 45, 46, 47, 48, 49, 50, 51, 52, 53, 54, 55, 56, 57, 58, 59, 60] (by decide +kernel) (by decide +kernel)) (goodIn_sub (fun _ h => List.mem_cons_of_mem _ (List.mem_append_right _ h)) (by decide +kernel))
set_option maxRecDepth 20000 in
theorem gX7_move_X7_keeps : GoodIn wsX7_move (wsV RX7 87 RX7 yX7_keeps wsX7_keeps) := goodIn_app (goodIn_of _ (by decide +kernel)) ggX7_move_X7_keeps
theorem dX7_move_0 : decode cX7_move 0 = .ok (.aload_n 0, 1) := by decide +kernel
theorem dX7_move_1 : decode cX7_move 1 = .ok (.aload_n 0, 1) := by decide +kernel
theorem dX7_move_2 : decode cX7_move 2 = .ok (.iload_n 1, 1) := by decide +kernel
theorem dX7_move_3 : decode cX7_move 3 = .ok (.invokevirtual 69, 3) := by decide +kernel
theorem dX7_move_6 : decode cX7_move 6 = .ok (.ifCond .ne 7, 3) := by decide +kernel
theorem dX7_move_9 : decode cX7_move 9 = .ok (.iconst 1, 1) := by decide +kernel
theorem dX7_move_10 : decode cX7_move 10 = .ok (.goto 15, 3) := by decide +kernel
theorem dX7_move_13 : decode cX7_move 13 = .ok (.iload_n 2, 1) := by decide +kernel
theorem dX7_move_14 : decode cX7_move 14 = .ok (.invokestatic 76, 3) := by decide +kernel
theorem dX7_move_17 : decode cX7_move 17 = .ok (.ifCond .eq 7, 3) := by decide +kernel
theorem dX7_move_20 : decode cX7_move 20 = .ok (.iconst 0, 1) := by decide +kernel
theorem dX7_move_21 : decode cX7_move 21 = .ok (.goto 4, 3) := by decide +kernel
theorem dX7_move_24 : decode cX7_move 24 = .ok (.iconst 2, 1) := by decide +kernel
theorem dX7_move_25 : decode cX7_move 25 = .ok (.invokevirtual 73, 3) := by decide +kernel
theorem dX7_move_28 : decode cX7_move 28 = .ok (.ifCond .eq 5, 3) := by decide +kernel
theorem dX7_move_31 : decode cX7_move 31 = .ok (.iconst 0, 1) := by decide +kernel
theorem dX7_move_32 : decode cX7_move 32 = .ok (.ireturn, 1) := by decide +kernel
theorem dX7_move_33 : decode cX7_move 33 = .ok (.aload_n 0, 1) := by decide +kernel
theorem dX7_move_34 : decode cX7_move 34 = .ok (.iload_n 2, 1) := by decide +kernel
theorem dX7_move_35 : decode cX7_move 35 = .ok (.invokevirtual 83, 3) := by decide +kernel
theorem dX7_move_38 : decode cX7_move 38 = .ok (.ifCond .lt 15, 3) := by decide +kernel
theorem dX7_move_41 : decode cX7_move 41 = .ok (.aload_n 0, 1) := by decide +kernel
theorem dX7_move_42 : decode cX7_move 42 = .ok (.iconst 3, 1) := by decide +kernel
theorem dX7_move_43 : decode cX7_move 43 = .ok (.iconst 2, 1) := by decide +kernel
theorem dX7_move_44 : decode cX7_move 44 = .ok (.aload_n 0, 1) := by decide +kernel
theorem dX7_move_45 : decode cX7_move 45 = .ok (.iload_n 2, 1) := by decide +kernel
theorem dX7_move_46 : decode cX7_move 46 = .ok (.invokevirtual 83, 3) := by decide +kernel
theorem dX7_move_49 : decode cX7_move 49 = .ok (.invokevirtual 79, 3) := by decide +kernel
theorem dX7_move_52 : decode cX7_move 52 = .ok (.ireturn, 1) := by decide +kernel
theorem dX7_move_53 : decode cX7_move 53 = .ok (.aload_n 0, 1) := by decide +kernel
theorem dX7_move_54 : decode cX7_move 54 = .ok (.getfield 7, 3) := by decide +kernel
theorem dX7_move_57 : decode cX7_move 57 = .ok (.iconst 5, 1) := by decide +kernel
theorem dX7_move_58 : decode cX7_move 58 = .ok (.iload_n 1, 1) := by decide +kernel
theorem dX7_move_59 : decode cX7_move 59 = .ok (.iadd, 1) := by decide +kernel
theorem dX7_move_60 : decode cX7_move 60 = .ok (.iaload, 1) := by decide +kernel
theorem dX7_move_61 : decode cX7_move 61 = .ok (.istore_n 3, 1) := by decide +kernel
theorem dX7_move_62 : decode cX7_move 62 = .ok (.aload_n 0, 1) := by decide +kernel
theorem dX7_move_63 : decode cX7_move 63 = .ok (.aload_n 0, 1) := by decide +kernel
theorem dX7_move_64 : decode cX7_move 64 = .ok (.getfield 7, 3) := by decide +kernel
theorem dX7_move_67 : decode cX7_move 67 = .ok (.invokevirtual 87, 3) := by decide +kernel
theorem dX7_move_70 : decode cX7_move 70 = .ok (.aload_n 0, 1) := by decide +kernel
theorem dX7_move_71 : decode cX7_move 71 = .ok (.getfield 7, 3) := by decide +kernel
theorem dX7_move_74 : decode cX7_move 74 = .ok (.iconst 5, 1) := by decide +kernel
theorem dX7_move_75 : decode cX7_move 75 = .ok (.iload_n 1, 1) := by decide +kernel
theorem dX7_move_76 : decode cX7_move 76 = .ok (.iadd, 1) := by decide +kernel
theorem dX7_move_77 : decode cX7_move 77 = .ok (.iload_n 2, 1) := by decide +kernel
theorem dX7_move_78 : decode cX7_move 78 = .ok (.iastore, 1) := by decide +kernel
theorem dX7_move_79 : decode cX7_move 79 = .ok (.iload_n 3, 1) := by decide +kernel
theorem dX7_move_80 : decode cX7_move 80 = .ok (.ireturn, 1) := by decide +kernel
set_option maxRecDepth 20000 in
theorem ggX7_setRevoked_X7_isNone : GoodIn wsX7_setRevoked wsX7_isNone := goodIn_ca (goodIn_r _ [6, 7, 8, 9, 5, 10, 1, 11, 12, 13, 14, 15, 16, 17, 18, 19, 55, 56, 57, 58, 59, 60, 61, 62, 63, 64, 65, 66, 67, 68, 69, 70, 71, 72, 73, 74, 75] (by decide +kernel) (by decide +kernel)) (goodIn_sub (fun _ h => List.mem_cons_of_mem _ (List.mem_append_right _ h)) (by decide +kernel))
set_option maxRecDepth 20000 in
theorem gX7_setRevoked_X7_isNone : GoodIn wsX7_setRevoked (wsV RX7 91 RX7 yX7_isNone wsX7_isNone) := goodIn_app (goodIn_of _ (by decide +kernel)) ggX7_setRevoked_X7_isNone
set_option maxRecDepth 20000 in
theorem ggX7_setRevoked_X7_has : GoodIn wsX7_setRevoked wsX7_has := goodIn_r _ [22] (by decide +kernel) (by decide +kernel)
set_option maxRecDepth 20000 in
theorem gX7_setRevoked_X7_has : GoodIn wsX7_setRevoked (va_wsS RX7 94 yX7_has wsX7_has) := goodIn_app (goodIn_of _ (by decide +kernel)) ggX7_setRevoked_X7_has
set_option maxRecDepth 20000 in
theorem ggX7_setRevoked_X7_denies : GoodIn wsX7_setRevoked wsX7_denies := goodIn_r _ [26, 18, 19, 27, 28, 29, 55, 56, 57, 58, 59, 60, 61, 62, 63, 64, 65, 66, 67, 68, 69, 70, 71, 72, 73, 74, 75] (by decide +kernel) (by decide +kernel)
set_option maxRecDepth 20000 in
theorem gX7_setRevoked_X7_denies : GoodIn wsX7_setRevoked (wsV RX7 79 RX7 yX7_denies wsX7_denies) := goodIn_app (goodIn_of _ (by decide +kernel)) ggX7_setRevoked_X7_denies
set_option maxRecDepth 20000 in
theorem ggX7_setRevoked_X7_keeps : GoodIn wsX7_setRevoked wsX7_keeps := goodIn_ca (goodIn_r _ [33, 18, 34, 35, 36, 37, 38, 5, 39, 55, 56, 57, 58, 59, 60, 61, 62, 63, 64, 65, 66, 67, 68, 69, 70, 71, 72, 73, 74, 75] (by decide +kernel) (by decide +kernel)) (goodIn_sub (fun _ h => List.mem_cons_of_mem _ (List.mem_append_right _ h)) (by decide +kernel))
set_option maxRecDepth 20000 in
theorem gX7_setRevoked_X7_keeps : GoodIn wsX7_setRevoked (wsV RX7 87 RX7 yX7_keeps wsX7_keeps) := goodIn_app (goodIn_of _ (by decide +kernel)) ggX7_setRevoked_X7_keeps
set_option maxRecDepth 20000 in
theorem ggX7_setRevoked_X7_certified : GoodIn wsX7_setRevoked wsX7_certified := goodIn_ca (goodIn_r _ [43, 1, 44, 45, 46, 5, 47, 48, 49, 50, 51, 20, 21, 22, 55, 56, 57, 58, 59, 60, 61, 62, 63, 64, 65, 66, 67, 68, 69, 70, 71, 72, 73, 74, 75] (by decide +kernel) (by decide +kernel)) (goodIn_sub (fun _ h => List.mem_cons_of_mem _ (List.mem_append_right _ h)) (by decide +kernel))
set_option maxRecDepth 20000 in
theorem gX7_setRevoked_X7_certified : GoodIn wsX7_setRevoked (wsV RX7 98 RX7 yX7_certified wsX7_certified) := goodIn_app (goodIn_of _ (by decide +kernel)) ggX7_setRevoked_X7_certified
set_option maxRecDepth 20000 in
theorem ggX7_setRevoked_X7_bits : GoodIn wsX7_setRevoked wsX7_bits := goodIn_r _ [54] (by decide +kernel) (by decide +kernel)
set_option maxRecDepth 20000 in
theorem gX7_setRevoked_X7_bits : GoodIn wsX7_setRevoked (va_wsS RX7 101 yX7_bits wsX7_bits) := goodIn_app (goodIn_of _ (by decide +kernel)) ggX7_setRevoked_X7_bits
theorem dX7_setRevoked_0 : decode cX7_setRevoked 0 = .ok (.aload_n 0, 1) := by decide +kernel
theorem dX7_setRevoked_1 : decode cX7_setRevoked 1 = .ok (.iload_n 1, 1) := by decide +kernel
theorem dX7_setRevoked_2 : decode cX7_setRevoked 2 = .ok (.invokevirtual 91, 3) := by decide +kernel
theorem dX7_setRevoked_5 : decode cX7_setRevoked 5 = .ok (.ifCond .eq 5, 3) := by decide +kernel
theorem dX7_setRevoked_8 : decode cX7_setRevoked 8 = .ok (.iconst 0, 1) := by decide +kernel
theorem dX7_setRevoked_9 : decode cX7_setRevoked 9 = .ok (.ireturn, 1) := by decide +kernel
theorem dX7_setRevoked_10 : decode cX7_setRevoked 10 = .ok (.aload_n 0, 1) := by decide +kernel
theorem dX7_setRevoked_11 : decode cX7_setRevoked 11 = .ok (.getfield 7, 3) := by decide +kernel
theorem dX7_setRevoked_14 : decode cX7_setRevoked 14 = .ok (.bipush 15, 2) := by decide +kernel
theorem dX7_setRevoked_16 : decode cX7_setRevoked 16 = .ok (.iaload, 1) := by decide +kernel
theorem dX7_setRevoked_17 : decode cX7_setRevoked 17 = .ok (.iload_n 1, 1) := by decide +kernel
theorem dX7_setRevoked_18 : decode cX7_setRevoked 18 = .ok (.invokestatic 94, 3) := by decide +kernel
theorem dX7_setRevoked_21 : decode cX7_setRevoked 21 = .ok (.iload_n 2, 1) := by decide +kernel
theorem dX7_setRevoked_22 : decode cX7_setRevoked 22 = .ok (.if_icmp .ne 19, 3) := by decide +kernel
theorem dX7_setRevoked_25 : decode cX7_setRevoked 25 = .ok (.aload_n 0, 1) := by decide +kernel
theorem dX7_setRevoked_26 : decode cX7_setRevoked 26 = .ok (.iconst 2, 1) := by decide +kernel
theorem dX7_setRevoked_27 : decode cX7_setRevoked 27 = .ok (.iconst 5, 1) := by decide +kernel
theorem dX7_setRevoked_28 : decode cX7_setRevoked 28 = .ok (.iload_n 2, 1) := by decide +kernel
theorem dX7_setRevoked_29 : decode cX7_setRevoked 29 = .ok (.ifCond .eq 7, 3) := by decide +kernel
theorem dX7_setRevoked_32 : decode cX7_setRevoked 32 = .ok (.iconst 1, 1) := by decide +kernel
theorem dX7_setRevoked_33 : decode cX7_setRevoked 33 = .ok (.goto 4, 3) := by decide +kernel
theorem dX7_setRevoked_36 : decode cX7_setRevoked 36 = .ok (.iconst 0, 1) := by decide +kernel
theorem dX7_setRevoked_37 : decode cX7_setRevoked 37 = .ok (.invokevirtual 79, 3) := by decide +kernel
theorem dX7_setRevoked_40 : decode cX7_setRevoked 40 = .ok (.ireturn, 1) := by decide +kernel
theorem dX7_setRevoked_41 : decode cX7_setRevoked 41 = .ok (.aload_n 0, 1) := by decide +kernel
theorem dX7_setRevoked_42 : decode cX7_setRevoked 42 = .ok (.aload_n 0, 1) := by decide +kernel
theorem dX7_setRevoked_43 : decode cX7_setRevoked 43 = .ok (.getfield 7, 3) := by decide +kernel
theorem dX7_setRevoked_46 : decode cX7_setRevoked 46 = .ok (.invokevirtual 87, 3) := by decide +kernel
theorem dX7_setRevoked_49 : decode cX7_setRevoked 49 = .ok (.aload_n 0, 1) := by decide +kernel
theorem dX7_setRevoked_50 : decode cX7_setRevoked 50 = .ok (.getfield 7, 3) := by decide +kernel
theorem dX7_setRevoked_53 : decode cX7_setRevoked 53 = .ok (.bipush 15, 2) := by decide +kernel
theorem dX7_setRevoked_55 : decode cX7_setRevoked 55 = .ok (.dup2, 1) := by decide +kernel
theorem dX7_setRevoked_56 : decode cX7_setRevoked 56 = .ok (.iaload, 1) := by decide +kernel
theorem dX7_setRevoked_57 : decode cX7_setRevoked 57 = .ok (.iconst 1, 1) := by decide +kernel
theorem dX7_setRevoked_58 : decode cX7_setRevoked 58 = .ok (.iload_n 1, 1) := by decide +kernel
theorem dX7_setRevoked_59 : decode cX7_setRevoked 59 = .ok (.ishl, 1) := by decide +kernel
theorem dX7_setRevoked_60 : decode cX7_setRevoked 60 = .ok (.ixor, 1) := by decide +kernel
theorem dX7_setRevoked_61 : decode cX7_setRevoked 61 = .ok (.iastore, 1) := by decide +kernel
theorem dX7_setRevoked_62 : decode cX7_setRevoked 62 = .ok (.aload_n 0, 1) := by decide +kernel
theorem dX7_setRevoked_63 : decode cX7_setRevoked 63 = .ok (.aload_n 0, 1) := by decide +kernel
theorem dX7_setRevoked_64 : decode cX7_setRevoked 64 = .ok (.getfield 7, 3) := by decide +kernel
theorem dX7_setRevoked_67 : decode cX7_setRevoked 67 = .ok (.iconst 2, 1) := by decide +kernel
theorem dX7_setRevoked_68 : decode cX7_setRevoked 68 = .ok (.iaload, 1) := by decide +kernel
theorem dX7_setRevoked_69 : decode cX7_setRevoked 69 = .ok (.invokevirtual 98, 3) := by decide +kernel
theorem dX7_setRevoked_72 : decode cX7_setRevoked 72 = .ok (.invokestatic 101, 3) := by decide +kernel
theorem dX7_setRevoked_75 : decode cX7_setRevoked 75 = .ok (.ireturn, 1) := by decide +kernel
theorem dX7_scarecrowCount_0 : decode cX7_scarecrowCount 0 = .ok (.aload_n 0, 1) := by decide +kernel
theorem dX7_scarecrowCount_1 : decode cX7_scarecrowCount 1 = .ok (.iconst 0, 1) := by decide +kernel
theorem dX7_scarecrowCount_2 : decode cX7_scarecrowCount 2 = .ok (.putfield 39, 3) := by decide +kernel
theorem dX7_scarecrowCount_5 : decode cX7_scarecrowCount 5 = .ok (.aload_n 0, 1) := by decide +kernel
theorem dX7_scarecrowCount_6 : decode cX7_scarecrowCount 6 = .ok (.getfield 7, 3) := by decide +kernel
theorem dX7_scarecrowCount_9 : decode cX7_scarecrowCount 9 = .ok (.iconst 0, 1) := by decide +kernel
theorem dX7_scarecrowCount_10 : decode cX7_scarecrowCount 10 = .ok (.iaload, 1) := by decide +kernel
theorem dX7_scarecrowCount_11 : decode cX7_scarecrowCount 11 = .ok (.ireturn, 1) := by decide +kernel
set_option maxRecDepth 20000 in
theorem ggX7_fieldOf_X7_isNone : GoodIn wsX7_fieldOf wsX7_isNone := goodIn_ca (goodIn_r _ [6, 7, 8, 9, 5, 10, 1, 11, 12, 13, 14, 15, 16, 17, 18, 19, 20, 21, 22, 23, 24, 25, 26, 27, 28, 29, 30, 31, 32, 33, 34, 35, 36, 37, 38, 39, 40] (by decide +kernel) (by decide +kernel)) (goodIn_sub (fun _ h => List.mem_cons_of_mem _ (List.mem_append_right _ h)) (by decide +kernel))
set_option maxRecDepth 20000 in
theorem gX7_fieldOf_X7_isNone : GoodIn wsX7_fieldOf (wsV RX7 91 RX7 yX7_isNone wsX7_isNone) := goodIn_app (goodIn_of _ (by decide +kernel)) ggX7_fieldOf_X7_isNone
theorem dX7_fieldOf_0 : decode cX7_fieldOf 0 = .ok (.aload_n 0, 1) := by decide +kernel
theorem dX7_fieldOf_1 : decode cX7_fieldOf 1 = .ok (.iload_n 1, 1) := by decide +kernel
theorem dX7_fieldOf_2 : decode cX7_fieldOf 2 = .ok (.invokevirtual 91, 3) := by decide +kernel
theorem dX7_fieldOf_5 : decode cX7_fieldOf 5 = .ok (.ifCond .eq 7, 3) := by decide +kernel
theorem dX7_fieldOf_8 : decode cX7_fieldOf 8 = .ok (.iconst 0, 1) := by decide +kernel
theorem dX7_fieldOf_9 : decode cX7_fieldOf 9 = .ok (.goto 11, 3) := by decide +kernel
theorem dX7_fieldOf_12 : decode cX7_fieldOf 12 = .ok (.aload_n 0, 1) := by decide +kernel
theorem dX7_fieldOf_13 : decode cX7_fieldOf 13 = .ok (.getfield 7, 3) := by decide +kernel
theorem dX7_fieldOf_16 : decode cX7_fieldOf 16 = .ok (.iconst 5, 1) := by decide +kernel
theorem dX7_fieldOf_17 : decode cX7_fieldOf 17 = .ok (.iload_n 1, 1) := by decide +kernel
theorem dX7_fieldOf_18 : decode cX7_fieldOf 18 = .ok (.iadd, 1) := by decide +kernel
theorem dX7_fieldOf_19 : decode cX7_fieldOf 19 = .ok (.iaload, 1) := by decide +kernel
theorem dX7_fieldOf_20 : decode cX7_fieldOf 20 = .ok (.ireturn, 1) := by decide +kernel
set_option maxRecDepth 20000 in
theorem ggX7_scarecrowOn_X7_isField : GoodIn wsX7_scarecrowOn wsX7_isField := goodIn_r _ [4, 5, 6, 3, 7] (by decide +kernel) (by decide +kernel)
set_option maxRecDepth 20000 in
theorem gX7_scarecrowOn_X7_isField : GoodIn wsX7_scarecrowOn (va_wsS RX7 76 yX7_isField wsX7_isField) := goodIn_app (goodIn_of _ (by decide +kernel)) ggX7_scarecrowOn_X7_isField
set_option maxRecDepth 20000 in
theorem ggX7_scarecrowOn_X7_standing : GoodIn wsX7_scarecrowOn wsX7_standing := goodIn_ca (goodIn_r _ [11, 12, 19, 20, 21, 22, 23, 24, 25, 26, 27, 28, 29, 30, 31, 32, 33, 34, 35, 36, 37, 38, 39] (by decide +kernel) (by decide +kernel)) (goodIn_sub (fun _ h => List.mem_cons_of_mem _ (List.mem_append_right _ h)) (by decide +kernel))
set_option maxRecDepth 20000 in
theorem gX7_scarecrowOn_X7_standing : GoodIn wsX7_scarecrowOn (wsV RX7 83 RX7 yX7_standing wsX7_standing) := goodIn_app (goodIn_of _ (by decide +kernel)) ggX7_scarecrowOn_X7_standing
set_option maxRecDepth 20000 in
theorem ggX7_scarecrowOn_X7_fails : GoodIn wsX7_scarecrowOn wsX7_fails := goodIn_r _ [16, 17, 18, 19, 20, 21, 22, 23, 24, 25, 26, 27, 28, 29, 30, 31, 32, 33, 34, 35, 36, 37, 38, 39] (by decide +kernel) (by decide +kernel)
set_option maxRecDepth 20000 in
theorem gX7_scarecrowOn_X7_fails : GoodIn wsX7_scarecrowOn (wsV RX7 73 RX7 yX7_fails wsX7_fails) := goodIn_app (goodIn_of _ (by decide +kernel)) ggX7_scarecrowOn_X7_fails
theorem dX7_scarecrowOn_0 : decode cX7_scarecrowOn 0 = .ok (.aload_n 0, 1) := by decide +kernel
theorem dX7_scarecrowOn_1 : decode cX7_scarecrowOn 1 = .ok (.iload_n 1, 1) := by decide +kernel
theorem dX7_scarecrowOn_2 : decode cX7_scarecrowOn 2 = .ok (.invokestatic 76, 3) := by decide +kernel
theorem dX7_scarecrowOn_5 : decode cX7_scarecrowOn 5 = .ok (.ifCond .ne 7, 3) := by decide +kernel
theorem dX7_scarecrowOn_8 : decode cX7_scarecrowOn 8 = .ok (.iconst 1, 1) := by decide +kernel
theorem dX7_scarecrowOn_9 : decode cX7_scarecrowOn 9 = .ok (.goto 16, 3) := by decide +kernel
theorem dX7_scarecrowOn_12 : decode cX7_scarecrowOn 12 = .ok (.aload_n 0, 1) := by decide +kernel
theorem dX7_scarecrowOn_13 : decode cX7_scarecrowOn 13 = .ok (.iload_n 1, 1) := by decide +kernel
theorem dX7_scarecrowOn_14 : decode cX7_scarecrowOn 14 = .ok (.invokevirtual 83, 3) := by decide +kernel
theorem dX7_scarecrowOn_17 : decode cX7_scarecrowOn 17 = .ok (.ifCond .ge 7, 3) := by decide +kernel
theorem dX7_scarecrowOn_20 : decode cX7_scarecrowOn 20 = .ok (.iconst 2, 1) := by decide +kernel
theorem dX7_scarecrowOn_21 : decode cX7_scarecrowOn 21 = .ok (.goto 4, 3) := by decide +kernel
theorem dX7_scarecrowOn_24 : decode cX7_scarecrowOn 24 = .ok (.iconst 0, 1) := by decide +kernel
theorem dX7_scarecrowOn_25 : decode cX7_scarecrowOn 25 = .ok (.invokevirtual 73, 3) := by decide +kernel
theorem dX7_scarecrowOn_28 : decode cX7_scarecrowOn 28 = .ok (.ifCond .eq 7, 3) := by decide +kernel
theorem dX7_scarecrowOn_31 : decode cX7_scarecrowOn 31 = .ok (.iconst 0, 1) := by decide +kernel
theorem dX7_scarecrowOn_32 : decode cX7_scarecrowOn 32 = .ok (.goto 8, 3) := by decide +kernel
theorem dX7_scarecrowOn_35 : decode cX7_scarecrowOn 35 = .ok (.aload_n 0, 1) := by decide +kernel
theorem dX7_scarecrowOn_36 : decode cX7_scarecrowOn 36 = .ok (.iload_n 1, 1) := by decide +kernel
theorem dX7_scarecrowOn_37 : decode cX7_scarecrowOn 37 = .ok (.invokevirtual 83, 3) := by decide +kernel
theorem dX7_scarecrowOn_40 : decode cX7_scarecrowOn 40 = .ok (.ireturn, 1) := by decide +kernel
set_option maxRecDepth 20000 in
theorem ggX7_isRevoked_X7_isNone : GoodIn wsX7_isRevoked wsX7_isNone := goodIn_ca (goodIn_r _ [6, 7, 8, 9, 5, 10, 1, 11, 12, 13, 14, 15, 16, 17, 18, 19, 23, 24, 25, 26, 27, 28, 29, 30, 31, 32, 33, 34, 35, 36, 37, 38, 39, 40, 41, 42, 43] (by decide +kernel) (by decide +kernel)) (goodIn_sub (fun _ h => List.mem_cons_of_mem _ (List.mem_append_right _ h)) (by decide +kernel))
set_option maxRecDepth 20000 in
theorem gX7_isRevoked_X7_isNone : GoodIn wsX7_isRevoked (wsV RX7 91 RX7 yX7_isNone wsX7_isNone) := goodIn_app (goodIn_of _ (by decide +kernel)) ggX7_isRevoked_X7_isNone
set_option maxRecDepth 20000 in
theorem ggX7_isRevoked_X7_has : GoodIn wsX7_isRevoked wsX7_has := goodIn_r _ [22] (by decide +kernel) (by decide +kernel)
set_option maxRecDepth 20000 in
theorem gX7_isRevoked_X7_has : GoodIn wsX7_isRevoked (va_wsS RX7 94 yX7_has wsX7_has) := goodIn_app (goodIn_of _ (by decide +kernel)) ggX7_isRevoked_X7_has
theorem dX7_isRevoked_0 : decode cX7_isRevoked 0 = .ok (.aload_n 0, 1) := by decide +kernel
theorem dX7_isRevoked_1 : decode cX7_isRevoked 1 = .ok (.iload_n 1, 1) := by decide +kernel
theorem dX7_isRevoked_2 : decode cX7_isRevoked 2 = .ok (.invokevirtual 91, 3) := by decide +kernel
theorem dX7_isRevoked_5 : decode cX7_isRevoked 5 = .ok (.ifCond .ne 21, 3) := by decide +kernel
theorem dX7_isRevoked_8 : decode cX7_isRevoked 8 = .ok (.aload_n 0, 1) := by decide +kernel
theorem dX7_isRevoked_9 : decode cX7_isRevoked 9 = .ok (.getfield 7, 3) := by decide +kernel
theorem dX7_isRevoked_12 : decode cX7_isRevoked 12 = .ok (.bipush 15, 2) := by decide +kernel
theorem dX7_isRevoked_14 : decode cX7_isRevoked 14 = .ok (.iaload, 1) := by decide +kernel
theorem dX7_isRevoked_15 : decode cX7_isRevoked 15 = .ok (.iload_n 1, 1) := by decide +kernel
theorem dX7_isRevoked_16 : decode cX7_isRevoked 16 = .ok (.invokestatic 94, 3) := by decide +kernel
theorem dX7_isRevoked_19 : decode cX7_isRevoked 19 = .ok (.ifCond .eq 7, 3) := by decide +kernel
theorem dX7_isRevoked_22 : decode cX7_isRevoked 22 = .ok (.iconst 1, 1) := by decide +kernel
theorem dX7_isRevoked_23 : decode cX7_isRevoked 23 = .ok (.goto 4, 3) := by decide +kernel
theorem dX7_isRevoked_26 : decode cX7_isRevoked 26 = .ok (.iconst 0, 1) := by decide +kernel
theorem dX7_isRevoked_27 : decode cX7_isRevoked 27 = .ok (.ireturn, 1) := by decide +kernel
theorem dX7_of_0 : decode cX7_of 0 = .ok (.aload_n 0, 1) := by decide +kernel
theorem dX7_of_1 : decode cX7_of 1 = .ok (.getfield 7, 3) := by decide +kernel
theorem dX7_of_4 : decode cX7_of 4 = .ok (.bipush 32, 2) := by decide +kernel
theorem dX7_of_6 : decode cX7_of 6 = .ok (.iconst 4, 1) := by decide +kernel
theorem dX7_of_7 : decode cX7_of 7 = .ok (.iload_n 1, 1) := by decide +kernel
theorem dX7_of_8 : decode cX7_of 8 = .ok (.imul, 1) := by decide +kernel
theorem dX7_of_9 : decode cX7_of 9 = .ok (.iadd, 1) := by decide +kernel
theorem dX7_of_10 : decode cX7_of 10 = .ok (.iload_n 2, 1) := by decide +kernel
theorem dX7_of_11 : decode cX7_of 11 = .ok (.iadd, 1) := by decide +kernel
theorem dX7_of_12 : decode cX7_of 12 = .ok (.iaload, 1) := by decide +kernel
theorem dX7_of_13 : decode cX7_of 13 = .ok (.ireturn, 1) := by decide +kernel
set_option maxRecDepth 20000 in
theorem ggX7_isCert_X7_in : GoodIn wsX7_isCert wsX7_in := goodIn_r _ [5] (by decide +kernel) (by decide +kernel)
set_option maxRecDepth 20000 in
theorem gX7_isCert_X7_in : GoodIn wsX7_isCert (va_wsS RX7 65 yX7_in wsX7_in) := goodIn_app (goodIn_of _ (by decide +kernel)) ggX7_isCert_X7_in
theorem dX7_isCert_0 : decode cX7_isCert 0 = .ok (.iload_n 1, 1) := by decide +kernel
theorem dX7_isCert_1 : decode cX7_isCert 1 = .ok (.iconst 0, 1) := by decide +kernel
theorem dX7_isCert_2 : decode cX7_isCert 2 = .ok (.aload_n 0, 1) := by decide +kernel
theorem dX7_isCert_3 : decode cX7_isCert 3 = .ok (.getfield 7, 3) := by decide +kernel
theorem dX7_isCert_6 : decode cX7_isCert 6 = .ok (.iconst 1, 1) := by decide +kernel
theorem dX7_isCert_7 : decode cX7_isCert 7 = .ok (.iaload, 1) := by decide +kernel
theorem dX7_isCert_8 : decode cX7_isCert 8 = .ok (.iconst 1, 1) := by decide +kernel
theorem dX7_isCert_9 : decode cX7_isCert 9 = .ok (.isub, 1) := by decide +kernel
theorem dX7_isCert_10 : decode cX7_isCert 10 = .ok (.invokestatic 65, 3) := by decide +kernel
theorem dX7_isCert_13 : decode cX7_isCert 13 = .ok (.ireturn, 1) := by decide +kernel
set_option maxRecDepth 20000 in
theorem ggX7_isLost_X7_isCert : GoodIn wsX7_isLost wsX7_isCert := goodIn_ca (goodIn_r _ [5, 6, 7, 8, 4, 9, 16, 17, 18, 19, 20, 21, 22, 23, 24, 25, 26, 27, 28, 29, 30, 31, 32, 33, 34, 35, 36] (by decide +kernel) (by decide +kernel)) (goodIn_sub (fun _ h => List.mem_cons_of_mem _ (List.mem_append_right _ h)) (by decide +kernel))
set_option maxRecDepth 20000 in
theorem gX7_isLost_X7_isCert : GoodIn wsX7_isLost (wsV RX7 104 RX7 yX7_isCert wsX7_isCert) := goodIn_app (goodIn_of _ (by decide +kernel)) ggX7_isLost_X7_isCert
set_option maxRecDepth 20000 in
theorem ggX7_isLost_X7_fails : GoodIn wsX7_isLost wsX7_fails := goodIn_r _ [13, 14, 15, 16, 17, 18, 19, 20, 21, 22, 23, 24, 25, 26, 27, 28, 29, 30, 31, 32, 33, 34, 35, 36] (by decide +kernel) (by decide +kernel)
set_option maxRecDepth 20000 in
theorem gX7_isLost_X7_fails : GoodIn wsX7_isLost (wsV RX7 73 RX7 yX7_fails wsX7_fails) := goodIn_app (goodIn_of _ (by decide +kernel)) ggX7_isLost_X7_fails
theorem dX7_isLost_0 : decode cX7_isLost 0 = .ok (.aload_n 0, 1) := by decide +kernel
theorem dX7_isLost_1 : decode cX7_isLost 1 = .ok (.aload_n 0, 1) := by decide +kernel
theorem dX7_isLost_2 : decode cX7_isLost 2 = .ok (.iload_n 1, 1) := by decide +kernel
theorem dX7_isLost_3 : decode cX7_isLost 3 = .ok (.invokevirtual 104, 3) := by decide +kernel
theorem dX7_isLost_6 : decode cX7_isLost 6 = .ok (.ifCond .eq 7, 3) := by decide +kernel
theorem dX7_isLost_9 : decode cX7_isLost 9 = .ok (.iconst 0, 1) := by decide +kernel
theorem dX7_isLost_10 : decode cX7_isLost 10 = .ok (.goto 4, 3) := by decide +kernel
theorem dX7_isLost_13 : decode cX7_isLost 13 = .ok (.iconst 1, 1) := by decide +kernel
theorem dX7_isLost_14 : decode cX7_isLost 14 = .ok (.invokevirtual 73, 3) := by decide +kernel
theorem dX7_isLost_17 : decode cX7_isLost 17 = .ok (.ireturn, 1) := by decide +kernel
set_option maxRecDepth 20000 in
theorem ggX7_holds_X7_of : GoodIn wsX7_holds wsX7_of := goodIn_ca (goodIn_r _ [6, 1, 10, 11, 12, 13, 14, 15, 16, 17, 18, 19, 20, 21, 22, 23, 24, 25, 26, 27, 28, 29, 30] (by decide +kernel) (by decide +kernel)) (goodIn_sub (fun _ h => List.mem_cons_of_mem _ (List.mem_append_right _ h)) (by decide +kernel))
set_option maxRecDepth 20000 in
theorem gX7_holds_X7_of : GoodIn wsX7_holds (wsV RX7 107 RX7 yX7_of wsX7_of) := goodIn_app (goodIn_of _ (by decide +kernel)) ggX7_holds_X7_of
set_option maxRecDepth 20000 in
theorem ggX7_holds_X7_has : GoodIn wsX7_holds wsX7_has := goodIn_r _ [9] (by decide +kernel) (by decide +kernel)
set_option maxRecDepth 20000 in
theorem gX7_holds_X7_has : GoodIn wsX7_holds (va_wsS RX7 94 yX7_has wsX7_has) := goodIn_app (goodIn_of _ (by decide +kernel)) ggX7_holds_X7_has
theorem dX7_holds_0 : decode cX7_holds 0 = .ok (.aload_n 0, 1) := by decide +kernel
theorem dX7_holds_1 : decode cX7_holds 1 = .ok (.iload_n 1, 1) := by decide +kernel
theorem dX7_holds_2 : decode cX7_holds 2 = .ok (.iconst 3, 1) := by decide +kernel
theorem dX7_holds_3 : decode cX7_holds 3 = .ok (.invokevirtual 107, 3) := by decide +kernel
theorem dX7_holds_6 : decode cX7_holds 6 = .ok (.iload_n 3, 1) := by decide +kernel
theorem dX7_holds_7 : decode cX7_holds 7 = .ok (.if_icmp .lt 51, 3) := by decide +kernel
theorem dX7_holds_10 : decode cX7_holds 10 = .ok (.aload_n 0, 1) := by decide +kernel
theorem dX7_holds_11 : decode cX7_holds 11 = .ok (.getfield 7, 3) := by decide +kernel
theorem dX7_holds_14 : decode cX7_holds 14 = .ok (.iconst 5, 1) := by decide +kernel
theorem dX7_holds_15 : decode cX7_holds 15 = .ok (.aload_n 0, 1) := by decide +kernel
theorem dX7_holds_16 : decode cX7_holds 16 = .ok (.iload_n 1, 1) := by decide +kernel
theorem dX7_holds_17 : decode cX7_holds 17 = .ok (.iconst 1, 1) := by decide +kernel
theorem dX7_holds_18 : decode cX7_holds 18 = .ok (.invokevirtual 107, 3) := by decide +kernel
theorem dX7_holds_21 : decode cX7_holds 21 = .ok (.iadd, 1) := by decide +kernel
theorem dX7_holds_22 : decode cX7_holds 22 = .ok (.iaload, 1) := by decide +kernel
theorem dX7_holds_23 : decode cX7_holds 23 = .ok (.aload_n 0, 1) := by decide +kernel
theorem dX7_holds_24 : decode cX7_holds 24 = .ok (.iload_n 1, 1) := by decide +kernel
theorem dX7_holds_25 : decode cX7_holds 25 = .ok (.iconst 2, 1) := by decide +kernel
theorem dX7_holds_26 : decode cX7_holds 26 = .ok (.invokevirtual 107, 3) := by decide +kernel
theorem dX7_holds_29 : decode cX7_holds 29 = .ok (.if_icmp .ne 29, 3) := by decide +kernel
theorem dX7_holds_32 : decode cX7_holds 32 = .ok (.aload_n 0, 1) := by decide +kernel
theorem dX7_holds_33 : decode cX7_holds 33 = .ok (.iload_n 1, 1) := by decide +kernel
theorem dX7_holds_34 : decode cX7_holds 34 = .ok (.iconst 0, 1) := by decide +kernel
theorem dX7_holds_35 : decode cX7_holds 35 = .ok (.invokevirtual 107, 3) := by decide +kernel
theorem dX7_holds_38 : decode cX7_holds 38 = .ok (.ifCond .lt 16, 3) := by decide +kernel
theorem dX7_holds_41 : decode cX7_holds 41 = .ok (.iload_n 2, 1) := by decide +kernel
theorem dX7_holds_42 : decode cX7_holds 42 = .ok (.aload_n 0, 1) := by decide +kernel
theorem dX7_holds_43 : decode cX7_holds 43 = .ok (.iload_n 1, 1) := by decide +kernel
theorem dX7_holds_44 : decode cX7_holds 44 = .ok (.iconst 0, 1) := by decide +kernel
theorem dX7_holds_45 : decode cX7_holds 45 = .ok (.invokevirtual 107, 3) := by decide +kernel
theorem dX7_holds_48 : decode cX7_holds 48 = .ok (.invokestatic 94, 3) := by decide +kernel
theorem dX7_holds_51 : decode cX7_holds 51 = .ok (.ifCond .eq 7, 3) := by decide +kernel
theorem dX7_holds_54 : decode cX7_holds 54 = .ok (.iconst 1, 1) := by decide +kernel
theorem dX7_holds_55 : decode cX7_holds 55 = .ok (.goto 4, 3) := by decide +kernel
theorem dX7_holds_58 : decode cX7_holds 58 = .ok (.iconst 0, 1) := by decide +kernel
theorem dX7_holds_59 : decode cX7_holds 59 = .ok (.ireturn, 1) := by decide +kernel
set_option maxRecDepth 20000 in
theorem ggX7_certified_X7_holds : GoodIn wsX7_certified wsX7_holds := goodIn_ca (goodIn_r _ [6, 1, 7, 8, 9, 5, 10, 11, 12, 13, 14, 15, 16, 17, 18, 19, 20, 21, 22, 23, 24, 25, 26, 27, 28, 29, 30, 31, 32, 33, 34] (by decide +kernel) (by decide +kernel)) (goodIn_sub (fun _ h => List.mem_cons_of_mem _ (List.mem_append_right _ h)) (by decide +kernel))
set_option maxRecDepth 20000 in
theorem gX7_certified_X7_holds : GoodIn wsX7_certified (wsV RX7 111 RX7 yX7_holds wsX7_holds) := goodIn_app (goodIn_of _ (by decide +kernel)) ggX7_certified_X7_holds
set_option maxRecDepth 20000 in
theorem ggX7_certified_X7_of : GoodIn wsX7_certified wsX7_of := goodIn_ca (goodIn_r _ [10, 1, 14, 15, 16, 17, 18, 19, 20, 21, 22, 23, 24, 25, 26, 27, 28, 29, 30, 31, 32, 33, 34] (by decide +kernel) (by decide +kernel)) (goodIn_sub (fun _ h => List.mem_cons_of_mem _ (List.mem_append_right _ h)) (by decide +kernel))
set_option maxRecDepth 20000 in
theorem gX7_certified_X7_of : GoodIn wsX7_certified (wsV RX7 107 RX7 yX7_of wsX7_of) := goodIn_app (goodIn_of _ (by decide +kernel)) ggX7_certified_X7_of
set_option maxRecDepth 20000 in
theorem ggX7_certified_X7_has : GoodIn wsX7_certified wsX7_has := goodIn_r _ [13] (by decide +kernel) (by decide +kernel)
set_option maxRecDepth 20000 in
theorem gX7_certified_X7_has : GoodIn wsX7_certified (va_wsS RX7 94 yX7_has wsX7_has) := goodIn_app (goodIn_of _ (by decide +kernel)) ggX7_certified_X7_has
theorem dX7_certified_0 : decode cX7_certified 0 = .ok (.iconst 0, 1) := by decide +kernel
theorem dX7_certified_1 : decode cX7_certified 1 = .ok (.istore_n 2, 1) := by decide +kernel
theorem dX7_certified_2 : decode cX7_certified 2 = .ok (.iconst (-1), 1) := by decide +kernel
theorem dX7_certified_3 : decode cX7_certified 3 = .ok (.istore_n 3, 1) := by decide +kernel
theorem dX7_certified_4 : decode cX7_certified 4 = .ok (.iload_n 2, 1) := by decide +kernel
theorem dX7_certified_5 : decode cX7_certified 5 = .ok (.iload_n 3, 1) := by decide +kernel
theorem dX7_certified_6 : decode cX7_certified 6 = .ok (.if_icmp .eq 71, 3) := by decide +kernel
theorem dX7_certified_9 : decode cX7_certified 9 = .ok (.iload_n 2, 1) := by decide +kernel
theorem dX7_certified_10 : decode cX7_certified 10 = .ok (.istore_n 3, 1) := by decide +kernel
theorem dX7_certified_11 : decode cX7_certified 11 = .ok (.iconst 0, 1) := by decide +kernel
theorem dX7_certified_12 : decode cX7_certified 12 = .ok (.istore 4, 2) := by decide +kernel
theorem dX7_certified_14 : decode cX7_certified 14 = .ok (.iload 4, 2) := by decide +kernel
theorem dX7_certified_16 : decode cX7_certified 16 = .ok (.aload_n 0, 1) := by decide +kernel
theorem dX7_certified_17 : decode cX7_certified 17 = .ok (.getfield 7, 3) := by decide +kernel
theorem dX7_certified_20 : decode cX7_certified 20 = .ok (.iconst 1, 1) := by decide +kernel
theorem dX7_certified_21 : decode cX7_certified 21 = .ok (.iaload, 1) := by decide +kernel
theorem dX7_certified_22 : decode cX7_certified 22 = .ok (.if_icmp .ge 52, 3) := by decide +kernel
theorem dX7_certified_25 : decode cX7_certified 25 = .ok (.aload_n 0, 1) := by decide +kernel
theorem dX7_certified_26 : decode cX7_certified 26 = .ok (.iload 4, 2) := by decide +kernel
theorem dX7_certified_28 : decode cX7_certified 28 = .ok (.iload_n 3, 1) := by decide +kernel
theorem dX7_certified_29 : decode cX7_certified 29 = .ok (.iload_n 1, 1) := by decide +kernel
theorem dX7_certified_30 : decode cX7_certified 30 = .ok (.invokevirtual 111, 3) := by decide +kernel
theorem dX7_certified_33 : decode cX7_certified 33 = .ok (.ifCond .eq 35, 3) := by decide +kernel
theorem dX7_certified_36 : decode cX7_certified 36 = .ok (.aload_n 0, 1) := by decide +kernel
theorem dX7_certified_37 : decode cX7_certified 37 = .ok (.getfield 7, 3) := by decide +kernel
theorem dX7_certified_40 : decode cX7_certified 40 = .ok (.bipush 15, 2) := by decide +kernel
theorem dX7_certified_42 : decode cX7_certified 42 = .ok (.iaload, 1) := by decide +kernel
theorem dX7_certified_43 : decode cX7_certified 43 = .ok (.aload_n 0, 1) := by decide +kernel
theorem dX7_certified_44 : decode cX7_certified 44 = .ok (.iload 4, 2) := by decide +kernel
theorem dX7_certified_46 : decode cX7_certified 46 = .ok (.iconst 1, 1) := by decide +kernel
theorem dX7_certified_47 : decode cX7_certified 47 = .ok (.invokevirtual 107, 3) := by decide +kernel
theorem dX7_certified_50 : decode cX7_certified 50 = .ok (.invokestatic 94, 3) := by decide +kernel
theorem dX7_certified_53 : decode cX7_certified 53 = .ok (.ifCond .ne 15, 3) := by decide +kernel
theorem dX7_certified_56 : decode cX7_certified 56 = .ok (.iload_n 2, 1) := by decide +kernel
theorem dX7_certified_57 : decode cX7_certified 57 = .ok (.iconst 1, 1) := by decide +kernel
theorem dX7_certified_58 : decode cX7_certified 58 = .ok (.aload_n 0, 1) := by decide +kernel
theorem dX7_certified_59 : decode cX7_certified 59 = .ok (.iload 4, 2) := by decide +kernel
theorem dX7_certified_61 : decode cX7_certified 61 = .ok (.iconst 1, 1) := by decide +kernel
theorem dX7_certified_62 : decode cX7_certified 62 = .ok (.invokevirtual 107, 3) := by decide +kernel
theorem dX7_certified_65 : decode cX7_certified 65 = .ok (.ishl, 1) := by decide +kernel
theorem dX7_certified_66 : decode cX7_certified 66 = .ok (.ior, 1) := by decide +kernel
theorem dX7_certified_67 : decode cX7_certified 67 = .ok (.istore_n 2, 1) := by decide +kernel
theorem dX7_certified_68 : decode cX7_certified 68 = .ok (.iinc 4 1, 3) := by decide +kernel
theorem dX7_certified_71 : decode cX7_certified 71 = .ok (.goto (-57), 3) := by decide +kernel
theorem dX7_certified_74 : decode cX7_certified 74 = .ok (.goto (-70), 3) := by decide +kernel
theorem dX7_certified_77 : decode cX7_certified 77 = .ok (.iload_n 2, 1) := by decide +kernel
theorem dX7_certified_78 : decode cX7_certified 78 = .ok (.ireturn, 1) := by decide +kernel
set_option maxRecDepth 20000 in
theorem ggX7_isSure_X7_isNone : GoodIn wsX7_isSure wsX7_isNone := goodIn_ca (goodIn_r _ [6, 7, 8, 9, 5, 10, 1, 11, 12, 13, 14, 15, 16, 17, 18, 19, 35, 36, 37, 38, 39, 40, 41, 42, 43, 44, 45, 46, 47, 48, 49, 50, 51, 52, 53, 54, 55] (by decide +kernel) (by decide +kernel)) (goodIn_sub (fun _ h => List.mem_cons_of_mem _ (List.mem_append_right _ h)) (by decide +kernel))
set_option maxRecDepth 20000 in
theorem gX7_isSure_X7_isNone : GoodIn wsX7_isSure (wsV RX7 91 RX7 yX7_isNone wsX7_isNone) := goodIn_app (goodIn_of _ (by decide +kernel)) ggX7_isSure_X7_isNone
set_option maxRecDepth 20000 in
theorem ggX7_isSure_X7_certified : GoodIn wsX7_isSure wsX7_certified := goodIn_ca (goodIn_r _ [23, 1, 24, 25, 26, 5, 27, 28, 29, 30, 31, 32, 33, 34, 35, 36, 37, 38, 39, 40, 41, 42, 43, 44, 45, 46, 47, 48, 49, 50, 51, 52, 53, 54, 55] (by decide +kernel) (by decide +kernel)) (goodIn_sub (fun _ h => List.mem_cons_of_mem _ (List.mem_append_right _ h)) (by decide +kernel))
set_option maxRecDepth 20000 in
theorem gX7_isSure_X7_certified : GoodIn wsX7_isSure (wsV RX7 98 RX7 yX7_certified wsX7_certified) := goodIn_app (goodIn_of _ (by decide +kernel)) ggX7_isSure_X7_certified
set_option maxRecDepth 20000 in
theorem ggX7_isSure_X7_has : GoodIn wsX7_isSure wsX7_has := goodIn_r _ [34] (by decide +kernel) (by decide +kernel)
set_option maxRecDepth 20000 in
theorem gX7_isSure_X7_has : GoodIn wsX7_isSure (va_wsS RX7 94 yX7_has wsX7_has) := goodIn_app (goodIn_of _ (by decide +kernel)) ggX7_isSure_X7_has
theorem dX7_isSure_0 : decode cX7_isSure 0 = .ok (.aload_n 0, 1) := by decide +kernel
theorem dX7_isSure_1 : decode cX7_isSure 1 = .ok (.iload_n 1, 1) := by decide +kernel
theorem dX7_isSure_2 : decode cX7_isSure 2 = .ok (.invokevirtual 91, 3) := by decide +kernel
theorem dX7_isSure_5 : decode cX7_isSure 5 = .ok (.ifCond .ne 24, 3) := by decide +kernel
theorem dX7_isSure_8 : decode cX7_isSure 8 = .ok (.aload_n 0, 1) := by decide +kernel
theorem dX7_isSure_9 : decode cX7_isSure 9 = .ok (.aload_n 0, 1) := by decide +kernel
theorem dX7_isSure_10 : decode cX7_isSure 10 = .ok (.getfield 7, 3) := by decide +kernel
theorem dX7_isSure_13 : decode cX7_isSure 13 = .ok (.iconst 2, 1) := by decide +kernel
theorem dX7_isSure_14 : decode cX7_isSure 14 = .ok (.iaload, 1) := by decide +kernel
theorem dX7_isSure_15 : decode cX7_isSure 15 = .ok (.invokevirtual 98, 3) := by decide +kernel
theorem dX7_isSure_18 : decode cX7_isSure 18 = .ok (.iload_n 1, 1) := by decide +kernel
theorem dX7_isSure_19 : decode cX7_isSure 19 = .ok (.invokestatic 94, 3) := by decide +kernel
theorem dX7_isSure_22 : decode cX7_isSure 22 = .ok (.ifCond .eq 7, 3) := by decide +kernel
theorem dX7_isSure_25 : decode cX7_isSure 25 = .ok (.iconst 1, 1) := by decide +kernel
theorem dX7_isSure_26 : decode cX7_isSure 26 = .ok (.goto 4, 3) := by decide +kernel
theorem dX7_isSure_29 : decode cX7_isSure 29 = .ok (.iconst 0, 1) := by decide +kernel
theorem dX7_isSure_30 : decode cX7_isSure 30 = .ok (.ireturn, 1) := by decide +kernel
set_option maxRecDepth 20000 in
theorem ggX7_isCertified_X7_isSure : GoodIn wsX7_isCertified wsX7_isSure := goodIn_ca (goodIn_r _ [5, 6, 7, 8, 9, 4, 10, 11, 12, 13, 14, 15, 16, 17, 18, 19, 20, 21, 22, 23, 24, 25, 26, 27, 28, 29, 30, 31, 32, 33, 34, 35, 36, 37, 38, 39, 40, 41, 42, 43, 44, 45, 46, 47, 48, 49, 50, 51, 52, 53, 54, 55, 56, 57, 58, 59] (by decide +kernel) (by decide +kernel)) (goodIn_sub (fun _ h => List.mem_cons_of_mem _ (List.mem_append_right _ h)) (by decide +kernel))
set_option maxRecDepth 20000 in
theorem gX7_isCertified_X7_isSure : GoodIn wsX7_isCertified (wsV RX7 114 RX7 yX7_isSure wsX7_isSure) := goodIn_app (goodIn_of _ (by decide +kernel)) ggX7_isCertified_X7_isSure
theorem dX7_isCertified_0 : decode cX7_isCertified 0 = .ok (.aload_n 0, 1) := by decide +kernel
theorem dX7_isCertified_1 : decode cX7_isCertified 1 = .ok (.iload_n 1, 1) := by decide +kernel
theorem dX7_isCertified_2 : decode cX7_isCertified 2 = .ok (.invokevirtual 114, 3) := by decide +kernel
theorem dX7_isCertified_5 : decode cX7_isCertified 5 = .ok (.ireturn, 1) := by decide +kernel
set_option maxRecDepth 20000 in
theorem ggX7_isCertifiedByChains_X7_isSure : GoodIn wsX7_isCertifiedByChains wsX7_isSure := goodIn_ca (goodIn_r _ [5, 6, 7, 8, 9, 4, 10, 11, 12, 13, 14, 15, 16, 17, 18, 19, 20, 21, 22, 23, 24, 25, 26, 27, 28, 29, 30, 31, 32, 33, 34, 35, 36, 37, 38, 39, 40, 41, 42, 43, 44, 45, 46, 47, 48, 49, 50, 51, 52, 53, 54, 55, 56, 57, 58, 59] (by decide +kernel) (by decide +kernel)) (goodIn_sub (fun _ h => List.mem_cons_of_mem _ (List.mem_append_right _ h)) (by decide +kernel))
set_option maxRecDepth 20000 in
theorem gX7_isCertifiedByChains_X7_isSure : GoodIn wsX7_isCertifiedByChains (wsV RX7 114 RX7 yX7_isSure wsX7_isSure) := goodIn_app (goodIn_of _ (by decide +kernel)) ggX7_isCertifiedByChains_X7_isSure
theorem dX7_isCertifiedByChains_0 : decode cX7_isCertifiedByChains 0 = .ok (.aload_n 0, 1) := by decide +kernel
theorem dX7_isCertifiedByChains_1 : decode cX7_isCertifiedByChains 1 = .ok (.iload_n 1, 1) := by decide +kernel
theorem dX7_isCertifiedByChains_2 : decode cX7_isCertifiedByChains 2 = .ok (.invokevirtual 114, 3) := by decide +kernel
theorem dX7_isCertifiedByChains_5 : decode cX7_isCertifiedByChains 5 = .ok (.ireturn, 1) := by decide +kernel
set_option maxRecDepth 20000 in
theorem ggX7_chainLength_X7_isCrow : GoodIn wsX7_chainLength wsX7_isCrow := goodIn_ca (goodIn_r _ [6, 1, 7, 8, 5, 9, 31, 32, 33, 34, 35, 36, 37, 38, 39, 40, 41, 42, 43, 44, 45, 46, 47, 48, 49, 50, 51] (by decide +kernel) (by decide +kernel)) (goodIn_sub (fun _ h => List.mem_cons_of_mem _ (List.mem_append_right _ h)) (by decide +kernel))
set_option maxRecDepth 20000 in
theorem gX7_chainLength_X7_isCrow : GoodIn wsX7_chainLength (wsV RX7 69 RX7 yX7_isCrow wsX7_isCrow) := goodIn_app (goodIn_of _ (by decide +kernel)) ggX7_chainLength_X7_isCrow
set_option maxRecDepth 20000 in
theorem ggX7_chainLength_X7_certified : GoodIn wsX7_chainLength wsX7_certified := goodIn_ca (goodIn_r _ [13, 1, 14, 15, 16, 5, 17, 18, 19, 20, 21, 22, 23, 24, 31, 32, 33, 34, 35, 36, 37, 38, 39, 40, 41, 42, 43, 44, 45, 46, 47, 48, 49, 50, 51] (by decide +kernel) (by decide +kernel)) (goodIn_sub (fun _ h => List.mem_cons_of_mem _ (List.mem_append_right _ h)) (by decide +kernel))
set_option maxRecDepth 20000 in
theorem gX7_chainLength_X7_certified : GoodIn wsX7_chainLength (wsV RX7 98 RX7 yX7_certified wsX7_certified) := goodIn_app (goodIn_of _ (by decide +kernel)) ggX7_chainLength_X7_certified
set_option maxRecDepth 20000 in
theorem ggX7_chainLength_X7_has : GoodIn wsX7_chainLength wsX7_has := goodIn_r _ [24] (by decide +kernel) (by decide +kernel)
set_option maxRecDepth 20000 in
theorem gX7_chainLength_X7_has : GoodIn wsX7_chainLength (va_wsS RX7 94 yX7_has wsX7_has) := goodIn_app (goodIn_of _ (by decide +kernel)) ggX7_chainLength_X7_has
set_option maxRecDepth 20000 in
theorem ggX7_chainLength_X7_fails : GoodIn wsX7_chainLength wsX7_fails := goodIn_r _ [28, 29, 30, 31, 32, 33, 34, 35, 36, 37, 38, 39, 40, 41, 42, 43, 44, 45, 46, 47, 48, 49, 50, 51] (by decide +kernel) (by decide +kernel)
set_option maxRecDepth 20000 in
theorem gX7_chainLength_X7_fails : GoodIn wsX7_chainLength (wsV RX7 73 RX7 yX7_fails wsX7_fails) := goodIn_app (goodIn_of _ (by decide +kernel)) ggX7_chainLength_X7_fails
set_option maxRecDepth 20000 in
theorem ggX7_chainLength_X7_holds : GoodIn wsX7_chainLength wsX7_holds := goodIn_ca (goodIn_r _ [17, 1, 18, 19, 20, 5, 21, 22, 23, 24, 31, 32, 33, 34, 35, 36, 37, 38, 39, 40, 41, 42, 43, 44, 45, 46, 47, 48, 49, 50, 51] (by decide +kernel) (by decide +kernel)) (goodIn_sub (fun _ h => List.mem_cons_of_mem _ (List.mem_append_right _ h)) (by decide +kernel))
set_option maxRecDepth 20000 in
theorem gX7_chainLength_X7_holds : GoodIn wsX7_chainLength (wsV RX7 111 RX7 yX7_holds wsX7_holds) := goodIn_app (goodIn_of _ (by decide +kernel)) ggX7_chainLength_X7_holds
set_option maxRecDepth 20000 in
theorem ggX7_chainLength_X7_of : GoodIn wsX7_chainLength wsX7_of := goodIn_ca (goodIn_r _ [21, 1, 31, 32, 33, 34, 35, 36, 37, 38, 39, 40, 41, 42, 43, 44, 45, 46, 47, 48, 49, 50, 51] (by decide +kernel) (by decide +kernel)) (goodIn_sub (fun _ h => List.mem_cons_of_mem _ (List.mem_append_right _ h)) (by decide +kernel))
set_option maxRecDepth 20000 in
theorem gX7_chainLength_X7_of : GoodIn wsX7_chainLength (wsV RX7 107 RX7 yX7_of wsX7_of) := goodIn_app (goodIn_of _ (by decide +kernel)) ggX7_chainLength_X7_of
theorem dX7_chainLength_0 : decode cX7_chainLength 0 = .ok (.aload_n 0, 1) := by decide +kernel
theorem dX7_chainLength_1 : decode cX7_chainLength 1 = .ok (.aload_n 0, 1) := by decide +kernel
theorem dX7_chainLength_2 : decode cX7_chainLength 2 = .ok (.iload_n 1, 1) := by decide +kernel
theorem dX7_chainLength_3 : decode cX7_chainLength 3 = .ok (.invokevirtual 69, 3) := by decide +kernel
theorem dX7_chainLength_6 : decode cX7_chainLength 6 = .ok (.ifCond .ne 7, 3) := by decide +kernel
theorem dX7_chainLength_9 : decode cX7_chainLength 9 = .ok (.iconst 1, 1) := by decide +kernel
theorem dX7_chainLength_10 : decode cX7_chainLength 10 = .ok (.goto 25, 3) := by decide +kernel
theorem dX7_chainLength_13 : decode cX7_chainLength 13 = .ok (.aload_n 0, 1) := by decide +kernel
theorem dX7_chainLength_14 : decode cX7_chainLength 14 = .ok (.aload_n 0, 1) := by decide +kernel
theorem dX7_chainLength_15 : decode cX7_chainLength 15 = .ok (.getfield 7, 3) := by decide +kernel
theorem dX7_chainLength_18 : decode cX7_chainLength 18 = .ok (.iconst 2, 1) := by decide +kernel
theorem dX7_chainLength_19 : decode cX7_chainLength 19 = .ok (.iaload, 1) := by decide +kernel
theorem dX7_chainLength_20 : decode cX7_chainLength 20 = .ok (.invokevirtual 98, 3) := by decide +kernel
theorem dX7_chainLength_23 : decode cX7_chainLength 23 = .ok (.iload_n 1, 1) := by decide +kernel
theorem dX7_chainLength_24 : decode cX7_chainLength 24 = .ok (.invokestatic 94, 3) := by decide +kernel
theorem dX7_chainLength_27 : decode cX7_chainLength 27 = .ok (.ifCond .eq 7, 3) := by decide +kernel
theorem dX7_chainLength_30 : decode cX7_chainLength 30 = .ok (.iconst 0, 1) := by decide +kernel
theorem dX7_chainLength_31 : decode cX7_chainLength 31 = .ok (.goto 4, 3) := by decide +kernel
theorem dX7_chainLength_34 : decode cX7_chainLength 34 = .ok (.iconst 2, 1) := by decide +kernel
theorem dX7_chainLength_35 : decode cX7_chainLength 35 = .ok (.invokevirtual 73, 3) := by decide +kernel
theorem dX7_chainLength_38 : decode cX7_chainLength 38 = .ok (.ifCond .eq 5, 3) := by decide +kernel
theorem dX7_chainLength_41 : decode cX7_chainLength 41 = .ok (.iconst 0, 1) := by decide +kernel
theorem dX7_chainLength_42 : decode cX7_chainLength 42 = .ok (.ireturn, 1) := by decide +kernel
theorem dX7_chainLength_43 : decode cX7_chainLength 43 = .ok (.iconst 0, 1) := by decide +kernel
theorem dX7_chainLength_44 : decode cX7_chainLength 44 = .ok (.istore_n 2, 1) := by decide +kernel
theorem dX7_chainLength_45 : decode cX7_chainLength 45 = .ok (.iconst 0, 1) := by decide +kernel
theorem dX7_chainLength_46 : decode cX7_chainLength 46 = .ok (.istore_n 3, 1) := by decide +kernel
theorem dX7_chainLength_47 : decode cX7_chainLength 47 = .ok (.iload_n 2, 1) := by decide +kernel
theorem dX7_chainLength_48 : decode cX7_chainLength 48 = .ok (.iload_n 1, 1) := by decide +kernel
theorem dX7_chainLength_49 : decode cX7_chainLength 49 = .ok (.invokestatic 94, 3) := by decide +kernel
theorem dX7_chainLength_52 : decode cX7_chainLength 52 = .ok (.ifCond .ne 81, 3) := by decide +kernel
theorem dX7_chainLength_55 : decode cX7_chainLength 55 = .ok (.iload_n 2, 1) := by decide +kernel
theorem dX7_chainLength_56 : decode cX7_chainLength 56 = .ok (.istore 4, 2) := by decide +kernel
theorem dX7_chainLength_58 : decode cX7_chainLength 58 = .ok (.iconst 0, 1) := by decide +kernel
theorem dX7_chainLength_59 : decode cX7_chainLength 59 = .ok (.istore 5, 2) := by decide +kernel
theorem dX7_chainLength_61 : decode cX7_chainLength 61 = .ok (.iload 5, 2) := by decide +kernel
theorem dX7_chainLength_63 : decode cX7_chainLength 63 = .ok (.aload_n 0, 1) := by decide +kernel
theorem dX7_chainLength_64 : decode cX7_chainLength 64 = .ok (.getfield 7, 3) := by decide +kernel
theorem dX7_chainLength_67 : decode cX7_chainLength 67 = .ok (.iconst 1, 1) := by decide +kernel
theorem dX7_chainLength_68 : decode cX7_chainLength 68 = .ok (.iaload, 1) := by decide +kernel
theorem dX7_chainLength_69 : decode cX7_chainLength 69 = .ok (.if_icmp .ge 58, 3) := by decide +kernel
theorem dX7_chainLength_72 : decode cX7_chainLength 72 = .ok (.aload_n 0, 1) := by decide +kernel
theorem dX7_chainLength_73 : decode cX7_chainLength 73 = .ok (.iload 5, 2) := by decide +kernel
theorem dX7_chainLength_75 : decode cX7_chainLength 75 = .ok (.iload 4, 2) := by decide +kernel
theorem dX7_chainLength_77 : decode cX7_chainLength 77 = .ok (.aload_n 0, 1) := by decide +kernel
theorem dX7_chainLength_78 : decode cX7_chainLength 78 = .ok (.getfield 7, 3) := by decide +kernel
theorem dX7_chainLength_81 : decode cX7_chainLength 81 = .ok (.iconst 2, 1) := by decide +kernel
theorem dX7_chainLength_82 : decode cX7_chainLength 82 = .ok (.iaload, 1) := by decide +kernel
theorem dX7_chainLength_83 : decode cX7_chainLength 83 = .ok (.invokevirtual 111, 3) := by decide +kernel
theorem dX7_chainLength_86 : decode cX7_chainLength 86 = .ok (.ifCond .eq 35, 3) := by decide +kernel
theorem dX7_chainLength_89 : decode cX7_chainLength 89 = .ok (.aload_n 0, 1) := by decide +kernel
theorem dX7_chainLength_90 : decode cX7_chainLength 90 = .ok (.getfield 7, 3) := by decide +kernel
theorem dX7_chainLength_93 : decode cX7_chainLength 93 = .ok (.bipush 15, 2) := by decide +kernel
theorem dX7_chainLength_95 : decode cX7_chainLength 95 = .ok (.iaload, 1) := by decide +kernel
theorem dX7_chainLength_96 : decode cX7_chainLength 96 = .ok (.aload_n 0, 1) := by decide +kernel
theorem dX7_chainLength_97 : decode cX7_chainLength 97 = .ok (.iload 5, 2) := by decide +kernel
theorem dX7_chainLength_99 : decode cX7_chainLength 99 = .ok (.iconst 1, 1) := by decide +kernel
theorem dX7_chainLength_100 : decode cX7_chainLength 100 = .ok (.invokevirtual 107, 3) := by decide +kernel
theorem dX7_chainLength_103 : decode cX7_chainLength 103 = .ok (.invokestatic 94, 3) := by decide +kernel
theorem dX7_chainLength_106 : decode cX7_chainLength 106 = .ok (.ifCond .ne 15, 3) := by decide +kernel
theorem dX7_chainLength_109 : decode cX7_chainLength 109 = .ok (.iload_n 2, 1) := by decide +kernel
theorem dX7_chainLength_110 : decode cX7_chainLength 110 = .ok (.iconst 1, 1) := by decide +kernel
theorem dX7_chainLength_111 : decode cX7_chainLength 111 = .ok (.aload_n 0, 1) := by decide +kernel
theorem dX7_chainLength_112 : decode cX7_chainLength 112 = .ok (.iload 5, 2) := by decide +kernel
theorem dX7_chainLength_114 : decode cX7_chainLength 114 = .ok (.iconst 1, 1) := by decide +kernel
theorem dX7_chainLength_115 : decode cX7_chainLength 115 = .ok (.invokevirtual 107, 3) := by decide +kernel
theorem dX7_chainLength_118 : decode cX7_chainLength 118 = .ok (.ishl, 1) := by decide +kernel
theorem dX7_chainLength_119 : decode cX7_chainLength 119 = .ok (.ior, 1) := by decide +kernel
theorem dX7_chainLength_120 : decode cX7_chainLength 120 = .ok (.istore_n 2, 1) := by decide +kernel
theorem dX7_chainLength_121 : decode cX7_chainLength 121 = .ok (.iinc 5 1, 3) := by decide +kernel
theorem dX7_chainLength_124 : decode cX7_chainLength 124 = .ok (.goto (-63), 3) := by decide +kernel
theorem dX7_chainLength_127 : decode cX7_chainLength 127 = .ok (.iinc 3 1, 3) := by decide +kernel
theorem dX7_chainLength_130 : decode cX7_chainLength 130 = .ok (.goto (-83), 3) := by decide +kernel
theorem dX7_chainLength_133 : decode cX7_chainLength 133 = .ok (.iload_n 3, 1) := by decide +kernel
theorem dX7_chainLength_134 : decode cX7_chainLength 134 = .ok (.ireturn, 1) := by decide +kernel
set_option maxRecDepth 20000 in
theorem ggX7_daysUntilUncertified_X7_isNone : GoodIn wsX7_daysUntilUncertified wsX7_isNone := goodIn_ca (goodIn_r _ [6, 7, 8, 9, 5, 10, 1, 11, 12, 13, 14, 15, 16, 17, 18, 19, 35, 36, 37, 38, 39, 40, 41, 42, 43, 44, 45, 46, 47, 48, 49, 50, 51, 52, 53, 54, 55] (by decide +kernel) (by decide +kernel)) (goodIn_sub (fun _ h => List.mem_cons_of_mem _ (List.mem_append_right _ h)) (by decide +kernel))
set_option maxRecDepth 20000 in
theorem gX7_daysUntilUncertified_X7_isNone : GoodIn wsX7_daysUntilUncertified (wsV RX7 91 RX7 yX7_isNone wsX7_isNone) := goodIn_app (goodIn_of _ (by decide +kernel)) ggX7_daysUntilUncertified_X7_isNone
set_option maxRecDepth 20000 in
theorem ggX7_daysUntilUncertified_X7_certified : GoodIn wsX7_daysUntilUncertified wsX7_certified := goodIn_ca (goodIn_r _ [23, 1, 24, 25, 26, 5, 27, 28, 29, 30, 31, 32, 33, 34, 35, 36, 37, 38, 39, 40, 41, 42, 43, 44, 45, 46, 47, 48, 49, 50, 51, 52, 53, 54, 55] (by decide +kernel) (by decide +kernel)) (goodIn_sub (fun _ h => List.mem_cons_of_mem _ (List.mem_append_right _ h)) (by decide +kernel))
set_option maxRecDepth 20000 in
theorem gX7_daysUntilUncertified_X7_certified : GoodIn wsX7_daysUntilUncertified (wsV RX7 98 RX7 yX7_certified wsX7_certified) := goodIn_app (goodIn_of _ (by decide +kernel)) ggX7_daysUntilUncertified_X7_certified
set_option maxRecDepth 20000 in
theorem ggX7_daysUntilUncertified_X7_has : GoodIn wsX7_daysUntilUncertified wsX7_has := goodIn_r _ [34] (by decide +kernel) (by decide +kernel)
set_option maxRecDepth 20000 in
theorem gX7_daysUntilUncertified_X7_has : GoodIn wsX7_daysUntilUncertified (va_wsS RX7 94 yX7_has wsX7_has) := goodIn_app (goodIn_of _ (by decide +kernel)) ggX7_daysUntilUncertified_X7_has
theorem dX7_daysUntilUncertified_0 : decode cX7_daysUntilUncertified 0 = .ok (.aload_n 0, 1) := by decide +kernel
theorem dX7_daysUntilUncertified_1 : decode cX7_daysUntilUncertified 1 = .ok (.iload_n 1, 1) := by decide +kernel
theorem dX7_daysUntilUncertified_2 : decode cX7_daysUntilUncertified 2 = .ok (.invokevirtual 91, 3) := by decide +kernel
theorem dX7_daysUntilUncertified_5 : decode cX7_daysUntilUncertified 5 = .ok (.ifCond .eq 5, 3) := by decide +kernel
theorem dX7_daysUntilUncertified_8 : decode cX7_daysUntilUncertified 8 = .ok (.iconst 0, 1) := by decide +kernel
theorem dX7_daysUntilUncertified_9 : decode cX7_daysUntilUncertified 9 = .ok (.ireturn, 1) := by decide +kernel
theorem dX7_daysUntilUncertified_10 : decode cX7_daysUntilUncertified 10 = .ok (.iconst 0, 1) := by decide +kernel
theorem dX7_daysUntilUncertified_11 : decode cX7_daysUntilUncertified 11 = .ok (.istore_n 2, 1) := by decide +kernel
theorem dX7_daysUntilUncertified_12 : decode cX7_daysUntilUncertified 12 = .ok (.aload_n 0, 1) := by decide +kernel
theorem dX7_daysUntilUncertified_13 : decode cX7_daysUntilUncertified 13 = .ok (.aload_n 0, 1) := by decide +kernel
theorem dX7_daysUntilUncertified_14 : decode cX7_daysUntilUncertified 14 = .ok (.getfield 7, 3) := by decide +kernel
theorem dX7_daysUntilUncertified_17 : decode cX7_daysUntilUncertified 17 = .ok (.iconst 2, 1) := by decide +kernel
theorem dX7_daysUntilUncertified_18 : decode cX7_daysUntilUncertified 18 = .ok (.iaload, 1) := by decide +kernel
theorem dX7_daysUntilUncertified_19 : decode cX7_daysUntilUncertified 19 = .ok (.iload_n 2, 1) := by decide +kernel
theorem dX7_daysUntilUncertified_20 : decode cX7_daysUntilUncertified 20 = .ok (.iadd, 1) := by decide +kernel
theorem dX7_daysUntilUncertified_21 : decode cX7_daysUntilUncertified 21 = .ok (.invokevirtual 98, 3) := by decide +kernel
theorem dX7_daysUntilUncertified_24 : decode cX7_daysUntilUncertified 24 = .ok (.iload_n 1, 1) := by decide +kernel
theorem dX7_daysUntilUncertified_25 : decode cX7_daysUntilUncertified 25 = .ok (.invokestatic 94, 3) := by decide +kernel
theorem dX7_daysUntilUncertified_28 : decode cX7_daysUntilUncertified 28 = .ok (.ifCond .eq 9, 3) := by decide +kernel
theorem dX7_daysUntilUncertified_31 : decode cX7_daysUntilUncertified 31 = .ok (.iinc 2 1, 3) := by decide +kernel
theorem dX7_daysUntilUncertified_34 : decode cX7_daysUntilUncertified 34 = .ok (.goto (-22), 3) := by decide +kernel
theorem dX7_daysUntilUncertified_37 : decode cX7_daysUntilUncertified 37 = .ok (.iload_n 2, 1) := by decide +kernel
theorem dX7_daysUntilUncertified_38 : decode cX7_daysUntilUncertified 38 = .ok (.ireturn, 1) := by decide +kernel
set_option maxRecDepth 20000 in
theorem ggX7_isValid_X7_certified : GoodIn wsX7_isValid wsX7_certified := goodIn_ca (goodIn_r _ [6, 1, 7, 8, 9, 5, 10, 11, 12, 13, 14, 15, 16, 17, 18, 19, 20, 21, 22, 23, 24, 25, 26, 27, 28, 29, 30, 31, 32, 33, 34, 35, 36, 37, 38] (by decide +kernel) (by decide +kernel)) (goodIn_sub (fun _ h => List.mem_cons_of_mem _ (List.mem_append_right _ h)) (by decide +kernel))
set_option maxRecDepth 20000 in
theorem gX7_isValid_X7_certified : GoodIn wsX7_isValid (wsV RX7 98 RX7 yX7_certified wsX7_certified) := goodIn_app (goodIn_of _ (by decide +kernel)) ggX7_isValid_X7_certified
set_option maxRecDepth 20000 in
theorem ggX7_isValid_X7_holds : GoodIn wsX7_isValid wsX7_holds := goodIn_ca (goodIn_r _ [10, 1, 11, 12, 13, 5, 14, 15, 16, 17, 18, 19, 20, 21, 22, 23, 24, 25, 26, 27, 28, 29, 30, 31, 32, 33, 34, 35, 36, 37, 38] (by decide +kernel) (by decide +kernel)) (goodIn_sub (fun _ h => List.mem_cons_of_mem _ (List.mem_append_right _ h)) (by decide +kernel))
set_option maxRecDepth 20000 in
theorem gX7_isValid_X7_holds : GoodIn wsX7_isValid (wsV RX7 111 RX7 yX7_holds wsX7_holds) := goodIn_app (goodIn_of _ (by decide +kernel)) ggX7_isValid_X7_holds
theorem dX7_isValid_0 : decode cX7_isValid 0 = .ok (.aload_n 0, 1) := by decide +kernel
theorem dX7_isValid_1 : decode cX7_isValid 1 = .ok (.iload_n 1, 1) := by decide +kernel
theorem dX7_isValid_2 : decode cX7_isValid 2 = .ok (.aload_n 0, 1) := by decide +kernel
theorem dX7_isValid_3 : decode cX7_isValid 3 = .ok (.aload_n 0, 1) := by decide +kernel
theorem dX7_isValid_4 : decode cX7_isValid 4 = .ok (.getfield 7, 3) := by decide +kernel
theorem dX7_isValid_7 : decode cX7_isValid 7 = .ok (.iconst 2, 1) := by decide +kernel
theorem dX7_isValid_8 : decode cX7_isValid 8 = .ok (.iaload, 1) := by decide +kernel
theorem dX7_isValid_9 : decode cX7_isValid 9 = .ok (.invokevirtual 98, 3) := by decide +kernel
theorem dX7_isValid_12 : decode cX7_isValid 12 = .ok (.aload_n 0, 1) := by decide +kernel
theorem dX7_isValid_13 : decode cX7_isValid 13 = .ok (.getfield 7, 3) := by decide +kernel
theorem dX7_isValid_16 : decode cX7_isValid 16 = .ok (.iconst 2, 1) := by decide +kernel
theorem dX7_isValid_17 : decode cX7_isValid 17 = .ok (.iaload, 1) := by decide +kernel
theorem dX7_isValid_18 : decode cX7_isValid 18 = .ok (.invokevirtual 111, 3) := by decide +kernel
theorem dX7_isValid_21 : decode cX7_isValid 21 = .ok (.ireturn, 1) := by decide +kernel
set_option maxRecDepth 20000 in
theorem ggX7_validOf_X7_of : GoodIn wsX7_validOf wsX7_of := goodIn_ca (goodIn_r _ [6, 1, 22, 23, 24, 25, 26, 27, 28, 29, 30, 31, 32, 33, 34, 35, 36, 37, 38, 39, 40, 41, 42] (by decide +kernel) (by decide +kernel)) (goodIn_sub (fun _ h => List.mem_cons_of_mem _ (List.mem_append_right _ h)) (by decide +kernel))
set_option maxRecDepth 20000 in
theorem gX7_validOf_X7_of : GoodIn wsX7_validOf (wsV RX7 107 RX7 yX7_of wsX7_of) := goodIn_app (goodIn_of _ (by decide +kernel)) ggX7_validOf_X7_of
set_option maxRecDepth 20000 in
theorem ggX7_validOf_X7_isValid : GoodIn wsX7_validOf wsX7_isValid := goodIn_ca (goodIn_r _ [10, 1, 11, 12, 13, 5, 14, 15, 16, 17, 18, 2, 3, 4, 6, 19, 20, 21, 22, 23, 24, 25, 26, 27, 28, 29, 30, 31, 32, 33, 34, 35, 36, 37, 38, 39, 40, 41, 42] (by decide +kernel) (by decide +kernel)) (goodIn_sub (fun _ h => List.mem_cons_of_mem _ (List.mem_append_right _ h)) (by decide +kernel))
set_option maxRecDepth 20000 in
theorem gX7_validOf_X7_isValid : GoodIn wsX7_validOf (wsV RX7 117 RX7 yX7_isValid wsX7_isValid) := goodIn_app (goodIn_of _ (by decide +kernel)) ggX7_validOf_X7_isValid
theorem dX7_validOf_0 : decode cX7_validOf 0 = .ok (.iconst 0, 1) := by decide +kernel
theorem dX7_validOf_1 : decode cX7_validOf 1 = .ok (.istore_n 2, 1) := by decide +kernel
theorem dX7_validOf_2 : decode cX7_validOf 2 = .ok (.iconst 0, 1) := by decide +kernel
theorem dX7_validOf_3 : decode cX7_validOf 3 = .ok (.istore_n 3, 1) := by decide +kernel
theorem dX7_validOf_4 : decode cX7_validOf 4 = .ok (.iload_n 3, 1) := by decide +kernel
theorem dX7_validOf_5 : decode cX7_validOf 5 = .ok (.aload_n 0, 1) := by decide +kernel
theorem dX7_validOf_6 : decode cX7_validOf 6 = .ok (.getfield 7, 3) := by decide +kernel
theorem dX7_validOf_9 : decode cX7_validOf 9 = .ok (.iconst 1, 1) := by decide +kernel
theorem dX7_validOf_10 : decode cX7_validOf 10 = .ok (.iaload, 1) := by decide +kernel
theorem dX7_validOf_11 : decode cX7_validOf 11 = .ok (.if_icmp .ge 35, 3) := by decide +kernel
theorem dX7_validOf_14 : decode cX7_validOf 14 = .ok (.iload_n 2, 1) := by decide +kernel
theorem dX7_validOf_15 : decode cX7_validOf 15 = .ok (.aload_n 0, 1) := by decide +kernel
theorem dX7_validOf_16 : decode cX7_validOf 16 = .ok (.iload_n 3, 1) := by decide +kernel
theorem dX7_validOf_17 : decode cX7_validOf 17 = .ok (.iconst 1, 1) := by decide +kernel
theorem dX7_validOf_18 : decode cX7_validOf 18 = .ok (.invokevirtual 107, 3) := by decide +kernel
theorem dX7_validOf_21 : decode cX7_validOf 21 = .ok (.iload_n 1, 1) := by decide +kernel
theorem dX7_validOf_22 : decode cX7_validOf 22 = .ok (.if_icmp .ne 15, 3) := by decide +kernel
theorem dX7_validOf_25 : decode cX7_validOf 25 = .ok (.aload_n 0, 1) := by decide +kernel
theorem dX7_validOf_26 : decode cX7_validOf 26 = .ok (.iload_n 3, 1) := by decide +kernel
theorem dX7_validOf_27 : decode cX7_validOf 27 = .ok (.invokevirtual 117, 3) := by decide +kernel
theorem dX7_validOf_30 : decode cX7_validOf 30 = .ok (.ifCond .eq 7, 3) := by decide +kernel
theorem dX7_validOf_33 : decode cX7_validOf 33 = .ok (.iconst 1, 1) := by decide +kernel
theorem dX7_validOf_34 : decode cX7_validOf 34 = .ok (.goto 4, 3) := by decide +kernel
theorem dX7_validOf_37 : decode cX7_validOf 37 = .ok (.iconst 0, 1) := by decide +kernel
theorem dX7_validOf_38 : decode cX7_validOf 38 = .ok (.iadd, 1) := by decide +kernel
theorem dX7_validOf_39 : decode cX7_validOf 39 = .ok (.istore_n 2, 1) := by decide +kernel
theorem dX7_validOf_40 : decode cX7_validOf 40 = .ok (.iinc 3 1, 3) := by decide +kernel
theorem dX7_validOf_43 : decode cX7_validOf 43 = .ok (.goto (-39), 3) := by decide +kernel
theorem dX7_validOf_46 : decode cX7_validOf 46 = .ok (.iload_n 2, 1) := by decide +kernel
theorem dX7_validOf_47 : decode cX7_validOf 47 = .ok (.ireturn, 1) := by decide +kernel
set_option maxRecDepth 20000 in
theorem ggX7_scarecrowByCertificates_X7_validOf : GoodIn wsX7_scarecrowByCertificates wsX7_validOf := goodIn_ca (goodIn_r _ [7, 1, 8, 9, 10, 6, 11, 12, 13, 14, 15, 16, 17, 18, 19, 20, 21, 22, 23, 24, 25, 26, 27, 28, 29, 30, 31, 32, 33, 34, 35, 36, 37, 38, 39, 40, 41, 42, 43, 44, 45, 46, 47] (by decide +kernel) (by decide +kernel)) (goodIn_sub (fun _ h => List.mem_cons_of_mem _ (List.mem_append_right _ h)) (by decide +kernel))
set_option maxRecDepth 20000 in
theorem gX7_scarecrowByCertificates_X7_validOf : GoodIn wsX7_scarecrowByCertificates (wsV RX7 120 RX7 yX7_validOf wsX7_validOf) := goodIn_app (goodIn_of _ (by decide +kernel)) ggX7_scarecrowByCertificates_X7_validOf
theorem dX7_scarecrowByCertificates_0 : decode cX7_scarecrowByCertificates 0 = .ok (.iconst 0, 1) := by decide +kernel
theorem dX7_scarecrowByCertificates_1 : decode cX7_scarecrowByCertificates 1 = .ok (.istore_n 2, 1) := by decide +kernel
theorem dX7_scarecrowByCertificates_2 : decode cX7_scarecrowByCertificates 2 = .ok (.iload_n 2, 1) := by decide +kernel
theorem dX7_scarecrowByCertificates_3 : decode cX7_scarecrowByCertificates 3 = .ok (.aload_n 0, 1) := by decide +kernel
theorem dX7_scarecrowByCertificates_4 : decode cX7_scarecrowByCertificates 4 = .ok (.getfield 7, 3) := by decide +kernel
theorem dX7_scarecrowByCertificates_7 : decode cX7_scarecrowByCertificates 7 = .ok (.iconst 0, 1) := by decide +kernel
theorem dX7_scarecrowByCertificates_8 : decode cX7_scarecrowByCertificates 8 = .ok (.iaload, 1) := by decide +kernel
theorem dX7_scarecrowByCertificates_9 : decode cX7_scarecrowByCertificates 9 = .ok (.if_icmp .ge 88, 3) := by decide +kernel
theorem dX7_scarecrowByCertificates_12 : decode cX7_scarecrowByCertificates 12 = .ok (.iconst 0, 1) := by decide +kernel
theorem dX7_scarecrowByCertificates_13 : decode cX7_scarecrowByCertificates 13 = .ok (.istore_n 3, 1) := by decide +kernel
theorem dX7_scarecrowByCertificates_14 : decode cX7_scarecrowByCertificates 14 = .ok (.iconst 0, 1) := by decide +kernel
theorem dX7_scarecrowByCertificates_15 : decode cX7_scarecrowByCertificates 15 = .ok (.istore 4, 2) := by decide +kernel
theorem dX7_scarecrowByCertificates_17 : decode cX7_scarecrowByCertificates 17 = .ok (.iload 4, 2) := by decide +kernel
theorem dX7_scarecrowByCertificates_19 : decode cX7_scarecrowByCertificates 19 = .ok (.aload_n 0, 1) := by decide +kernel
theorem dX7_scarecrowByCertificates_20 : decode cX7_scarecrowByCertificates 20 = .ok (.getfield 7, 3) := by decide +kernel
theorem dX7_scarecrowByCertificates_23 : decode cX7_scarecrowByCertificates 23 = .ok (.iconst 0, 1) := by decide +kernel
theorem dX7_scarecrowByCertificates_24 : decode cX7_scarecrowByCertificates 24 = .ok (.iaload, 1) := by decide +kernel
theorem dX7_scarecrowByCertificates_25 : decode cX7_scarecrowByCertificates 25 = .ok (.if_icmp .ge 51, 3) := by decide +kernel
theorem dX7_scarecrowByCertificates_28 : decode cX7_scarecrowByCertificates 28 = .ok (.iload_n 3, 1) := by decide +kernel
theorem dX7_scarecrowByCertificates_29 : decode cX7_scarecrowByCertificates 29 = .ok (.aload_n 0, 1) := by decide +kernel
theorem dX7_scarecrowByCertificates_30 : decode cX7_scarecrowByCertificates 30 = .ok (.iload 4, 2) := by decide +kernel
theorem dX7_scarecrowByCertificates_32 : decode cX7_scarecrowByCertificates 32 = .ok (.invokevirtual 120, 3) := by decide +kernel
theorem dX7_scarecrowByCertificates_35 : decode cX7_scarecrowByCertificates 35 = .ok (.aload_n 0, 1) := by decide +kernel
theorem dX7_scarecrowByCertificates_36 : decode cX7_scarecrowByCertificates 36 = .ok (.iload_n 2, 1) := by decide +kernel
theorem dX7_scarecrowByCertificates_37 : decode cX7_scarecrowByCertificates 37 = .ok (.invokevirtual 120, 3) := by decide +kernel
theorem dX7_scarecrowByCertificates_40 : decode cX7_scarecrowByCertificates 40 = .ok (.if_icmp .gt 23, 3) := by decide +kernel
theorem dX7_scarecrowByCertificates_43 : decode cX7_scarecrowByCertificates 43 = .ok (.aload_n 0, 1) := by decide +kernel
theorem dX7_scarecrowByCertificates_44 : decode cX7_scarecrowByCertificates 44 = .ok (.iload 4, 2) := by decide +kernel
theorem dX7_scarecrowByCertificates_46 : decode cX7_scarecrowByCertificates 46 = .ok (.invokevirtual 120, 3) := by decide +kernel
theorem dX7_scarecrowByCertificates_49 : decode cX7_scarecrowByCertificates 49 = .ok (.aload_n 0, 1) := by decide +kernel
theorem dX7_scarecrowByCertificates_50 : decode cX7_scarecrowByCertificates 50 = .ok (.iload_n 2, 1) := by decide +kernel
theorem dX7_scarecrowByCertificates_51 : decode cX7_scarecrowByCertificates 51 = .ok (.invokevirtual 120, 3) := by decide +kernel
theorem dX7_scarecrowByCertificates_54 : decode cX7_scarecrowByCertificates 54 = .ok (.if_icmp .ne 13, 3) := by decide +kernel
theorem dX7_scarecrowByCertificates_57 : decode cX7_scarecrowByCertificates 57 = .ok (.iload 4, 2) := by decide +kernel
theorem dX7_scarecrowByCertificates_59 : decode cX7_scarecrowByCertificates 59 = .ok (.iload_n 2, 1) := by decide +kernel
theorem dX7_scarecrowByCertificates_60 : decode cX7_scarecrowByCertificates 60 = .ok (.if_icmp .ge 7, 3) := by decide +kernel
theorem dX7_scarecrowByCertificates_63 : decode cX7_scarecrowByCertificates 63 = .ok (.iconst 1, 1) := by decide +kernel
theorem dX7_scarecrowByCertificates_64 : decode cX7_scarecrowByCertificates 64 = .ok (.goto 4, 3) := by decide +kernel
theorem dX7_scarecrowByCertificates_67 : decode cX7_scarecrowByCertificates 67 = .ok (.iconst 0, 1) := by decide +kernel
theorem dX7_scarecrowByCertificates_68 : decode cX7_scarecrowByCertificates 68 = .ok (.iadd, 1) := by decide +kernel
theorem dX7_scarecrowByCertificates_69 : decode cX7_scarecrowByCertificates 69 = .ok (.istore_n 3, 1) := by decide +kernel
theorem dX7_scarecrowByCertificates_70 : decode cX7_scarecrowByCertificates 70 = .ok (.iinc 4 1, 3) := by decide +kernel
theorem dX7_scarecrowByCertificates_73 : decode cX7_scarecrowByCertificates 73 = .ok (.goto (-56), 3) := by decide +kernel
theorem dX7_scarecrowByCertificates_76 : decode cX7_scarecrowByCertificates 76 = .ok (.iload_n 3, 1) := by decide +kernel
theorem dX7_scarecrowByCertificates_77 : decode cX7_scarecrowByCertificates 77 = .ok (.iload_n 1, 1) := by decide +kernel
theorem dX7_scarecrowByCertificates_78 : decode cX7_scarecrowByCertificates 78 = .ok (.if_icmp .eq 6, 3) := by decide +kernel
theorem dX7_scarecrowByCertificates_81 : decode cX7_scarecrowByCertificates 81 = .ok (.goto 10, 3) := by decide +kernel
theorem dX7_scarecrowByCertificates_84 : decode cX7_scarecrowByCertificates 84 = .ok (.aload_n 0, 1) := by decide +kernel
theorem dX7_scarecrowByCertificates_85 : decode cX7_scarecrowByCertificates 85 = .ok (.iconst 0, 1) := by decide +kernel
theorem dX7_scarecrowByCertificates_86 : decode cX7_scarecrowByCertificates 86 = .ok (.putfield 39, 3) := by decide +kernel
theorem dX7_scarecrowByCertificates_89 : decode cX7_scarecrowByCertificates 89 = .ok (.iload_n 2, 1) := by decide +kernel
theorem dX7_scarecrowByCertificates_90 : decode cX7_scarecrowByCertificates 90 = .ok (.ireturn, 1) := by decide +kernel
theorem dX7_scarecrowByCertificates_91 : decode cX7_scarecrowByCertificates 91 = .ok (.iinc 2 1, 3) := by decide +kernel
theorem dX7_scarecrowByCertificates_94 : decode cX7_scarecrowByCertificates 94 = .ok (.goto (-92), 3) := by decide +kernel
theorem dX7_scarecrowByCertificates_97 : decode cX7_scarecrowByCertificates 97 = .ok (.aload_n 0, 1) := by decide +kernel
theorem dX7_scarecrowByCertificates_98 : decode cX7_scarecrowByCertificates 98 = .ok (.iconst 1, 1) := by decide +kernel
theorem dX7_scarecrowByCertificates_99 : decode cX7_scarecrowByCertificates 99 = .ok (.putfield 39, 3) := by decide +kernel
theorem dX7_scarecrowByCertificates_102 : decode cX7_scarecrowByCertificates 102 = .ok (.iconst 0, 1) := by decide +kernel
theorem dX7_scarecrowByCertificates_103 : decode cX7_scarecrowByCertificates 103 = .ok (.ireturn, 1) := by decide +kernel
set_option maxRecDepth 20000 in
theorem ggX7_adds_X7_keeps : GoodIn wsX7_adds wsX7_keeps := goodIn_ca (goodIn_r _ [6, 7, 8, 9, 10, 11, 12, 5, 13, 14, 15, 16, 17, 18, 19, 20, 21, 22, 23, 24, 25, 26, 27, 28, 29, 30, 31, 32, 33, 34] (by decide +kernel) (by decide +kernel)) (goodIn_sub (fun _ h => List.mem_cons_of_mem _ (List.mem_append_right _ h)) (by decide +kernel))
set_option maxRecDepth 20000 in
theorem gX7_adds_X7_keeps : GoodIn wsX7_adds (wsV RX7 87 RX7 yX7_keeps wsX7_keeps) := goodIn_app (goodIn_of _ (by decide +kernel)) ggX7_adds_X7_keeps
theorem dX7_adds_0 : decode cX7_adds 0 = .ok (.aload_n 0, 1) := by decide +kernel
theorem dX7_adds_1 : decode cX7_adds 1 = .ok (.aload_n 0, 1) := by decide +kernel
theorem dX7_adds_2 : decode cX7_adds 2 = .ok (.getfield 7, 3) := by decide +kernel
theorem dX7_adds_5 : decode cX7_adds 5 = .ok (.invokevirtual 87, 3) := by decide +kernel
theorem dX7_adds_8 : decode cX7_adds 8 = .ok (.bipush 32, 2) := by decide +kernel
theorem dX7_adds_10 : decode cX7_adds 10 = .ok (.iconst 4, 1) := by decide +kernel
theorem dX7_adds_11 : decode cX7_adds 11 = .ok (.aload_n 0, 1) := by decide +kernel
theorem dX7_adds_12 : decode cX7_adds 12 = .ok (.getfield 7, 3) := by decide +kernel
theorem dX7_adds_15 : decode cX7_adds 15 = .ok (.iconst 1, 1) := by decide +kernel
theorem dX7_adds_16 : decode cX7_adds 16 = .ok (.iaload, 1) := by decide +kernel
theorem dX7_adds_17 : decode cX7_adds 17 = .ok (.imul, 1) := by decide +kernel
theorem dX7_adds_18 : decode cX7_adds 18 = .ok (.iadd, 1) := by decide +kernel
theorem dX7_adds_19 : decode cX7_adds 19 = .ok (.istore 4, 2) := by decide +kernel
theorem dX7_adds_21 : decode cX7_adds 21 = .ok (.aload_n 0, 1) := by decide +kernel
theorem dX7_adds_22 : decode cX7_adds 22 = .ok (.getfield 7, 3) := by decide +kernel
theorem dX7_adds_25 : decode cX7_adds 25 = .ok (.iload 4, 2) := by decide +kernel
theorem dX7_adds_27 : decode cX7_adds 27 = .ok (.iconst 0, 1) := by decide +kernel
theorem dX7_adds_28 : decode cX7_adds 28 = .ok (.iadd, 1) := by decide +kernel
theorem dX7_adds_29 : decode cX7_adds 29 = .ok (.iload_n 1, 1) := by decide +kernel
theorem dX7_adds_30 : decode cX7_adds 30 = .ok (.iastore, 1) := by decide +kernel
theorem dX7_adds_31 : decode cX7_adds 31 = .ok (.aload_n 0, 1) := by decide +kernel
theorem dX7_adds_32 : decode cX7_adds 32 = .ok (.getfield 7, 3) := by decide +kernel
theorem dX7_adds_35 : decode cX7_adds 35 = .ok (.iload 4, 2) := by decide +kernel
theorem dX7_adds_37 : decode cX7_adds 37 = .ok (.iconst 1, 1) := by decide +kernel
theorem dX7_adds_38 : decode cX7_adds 38 = .ok (.iadd, 1) := by decide +kernel
theorem dX7_adds_39 : decode cX7_adds 39 = .ok (.iload_n 2, 1) := by decide +kernel
theorem dX7_adds_40 : decode cX7_adds 40 = .ok (.iastore, 1) := by decide +kernel
theorem dX7_adds_41 : decode cX7_adds 41 = .ok (.aload_n 0, 1) := by decide +kernel
theorem dX7_adds_42 : decode cX7_adds 42 = .ok (.getfield 7, 3) := by decide +kernel
theorem dX7_adds_45 : decode cX7_adds 45 = .ok (.iload 4, 2) := by decide +kernel
theorem dX7_adds_47 : decode cX7_adds 47 = .ok (.iconst 2, 1) := by decide +kernel
theorem dX7_adds_48 : decode cX7_adds 48 = .ok (.iadd, 1) := by decide +kernel
theorem dX7_adds_49 : decode cX7_adds 49 = .ok (.aload_n 0, 1) := by decide +kernel
theorem dX7_adds_50 : decode cX7_adds 50 = .ok (.getfield 7, 3) := by decide +kernel
theorem dX7_adds_53 : decode cX7_adds 53 = .ok (.iconst 5, 1) := by decide +kernel
theorem dX7_adds_54 : decode cX7_adds 54 = .ok (.iload_n 2, 1) := by decide +kernel
theorem dX7_adds_55 : decode cX7_adds 55 = .ok (.iadd, 1) := by decide +kernel
theorem dX7_adds_56 : decode cX7_adds 56 = .ok (.iaload, 1) := by decide +kernel
theorem dX7_adds_57 : decode cX7_adds 57 = .ok (.iastore, 1) := by decide +kernel
theorem dX7_adds_58 : decode cX7_adds 58 = .ok (.aload_n 0, 1) := by decide +kernel
theorem dX7_adds_59 : decode cX7_adds 59 = .ok (.getfield 7, 3) := by decide +kernel
theorem dX7_adds_62 : decode cX7_adds 62 = .ok (.iload 4, 2) := by decide +kernel
theorem dX7_adds_64 : decode cX7_adds 64 = .ok (.iconst 3, 1) := by decide +kernel
theorem dX7_adds_65 : decode cX7_adds 65 = .ok (.iadd, 1) := by decide +kernel
theorem dX7_adds_66 : decode cX7_adds 66 = .ok (.aload_n 0, 1) := by decide +kernel
theorem dX7_adds_67 : decode cX7_adds 67 = .ok (.getfield 7, 3) := by decide +kernel
theorem dX7_adds_70 : decode cX7_adds 70 = .ok (.iconst 2, 1) := by decide +kernel
theorem dX7_adds_71 : decode cX7_adds 71 = .ok (.iaload, 1) := by decide +kernel
theorem dX7_adds_72 : decode cX7_adds 72 = .ok (.iload_n 3, 1) := by decide +kernel
theorem dX7_adds_73 : decode cX7_adds 73 = .ok (.iadd, 1) := by decide +kernel
theorem dX7_adds_74 : decode cX7_adds 74 = .ok (.iastore, 1) := by decide +kernel
theorem dX7_adds_75 : decode cX7_adds 75 = .ok (.aload_n 0, 1) := by decide +kernel
theorem dX7_adds_76 : decode cX7_adds 76 = .ok (.getfield 7, 3) := by decide +kernel
theorem dX7_adds_79 : decode cX7_adds 79 = .ok (.iconst 1, 1) := by decide +kernel
theorem dX7_adds_80 : decode cX7_adds 80 = .ok (.dup2, 1) := by decide +kernel
theorem dX7_adds_81 : decode cX7_adds 81 = .ok (.iaload, 1) := by decide +kernel
theorem dX7_adds_82 : decode cX7_adds 82 = .ok (.iconst 1, 1) := by decide +kernel
theorem dX7_adds_83 : decode cX7_adds 83 = .ok (.iadd, 1) := by decide +kernel
theorem dX7_adds_84 : decode cX7_adds 84 = .ok (.iastore, 1) := by decide +kernel
theorem dX7_adds_85 : decode cX7_adds 85 = .ok (.aload_n 0, 1) := by decide +kernel
theorem dX7_adds_86 : decode cX7_adds 86 = .ok (.getfield 7, 3) := by decide +kernel
theorem dX7_adds_89 : decode cX7_adds 89 = .ok (.iconst 1, 1) := by decide +kernel
theorem dX7_adds_90 : decode cX7_adds 90 = .ok (.iaload, 1) := by decide +kernel
theorem dX7_adds_91 : decode cX7_adds 91 = .ok (.iconst 1, 1) := by decide +kernel
theorem dX7_adds_92 : decode cX7_adds 92 = .ok (.isub, 1) := by decide +kernel
theorem dX7_adds_93 : decode cX7_adds 93 = .ok (.ireturn, 1) := by decide +kernel
set_option maxRecDepth 20000 in
theorem ggX7_issueByRegistry_X7_isCrow : GoodIn wsX7_issueByRegistry wsX7_isCrow := goodIn_ca (goodIn_r _ [6, 1, 7, 8, 5, 9, 37, 38, 39, 40, 41, 42, 43, 44, 45, 46, 47, 48, 49, 50, 51, 52, 53, 54, 55, 56, 57] (by decide +kernel) (by decide +kernel)) (goodIn_sub (fun _ h => List.mem_cons_of_mem _ (List.mem_append_right _ h)) (by decide +kernel))
set_option maxRecDepth 20000 in
theorem gX7_issueByRegistry_X7_isCrow : GoodIn wsX7_issueByRegistry (wsV RX7 69 RX7 yX7_isCrow wsX7_isCrow) := goodIn_app (goodIn_of _ (by decide +kernel)) ggX7_issueByRegistry_X7_isCrow
set_option maxRecDepth 20000 in
theorem ggX7_issueByRegistry_X7_in : GoodIn wsX7_issueByRegistry wsX7_in := goodIn_r _ [9] (by decide +kernel) (by decide +kernel)
set_option maxRecDepth 20000 in
theorem gX7_issueByRegistry_X7_in : GoodIn wsX7_issueByRegistry (va_wsS RX7 65 yX7_in wsX7_in) := goodIn_app (goodIn_of _ (by decide +kernel)) ggX7_issueByRegistry_X7_in
set_option maxRecDepth 20000 in
theorem ggX7_issueByRegistry_X7_fails : GoodIn wsX7_issueByRegistry wsX7_fails := goodIn_r _ [13, 14, 15, 37, 38, 39, 40, 41, 42, 43, 44, 45, 46, 47, 48, 49, 50, 51, 52, 53, 54, 55, 56, 57] (by decide +kernel) (by decide +kernel)
set_option maxRecDepth 20000 in
theorem gX7_issueByRegistry_X7_fails : GoodIn wsX7_issueByRegistry (wsV RX7 73 RX7 yX7_fails wsX7_fails) := goodIn_app (goodIn_of _ (by decide +kernel)) ggX7_issueByRegistry_X7_fails
set_option maxRecDepth 20000 in
theorem ggX7_issueByRegistry_X7_denies : GoodIn wsX7_issueByRegistry wsX7_denies := goodIn_r _ [19, 14, 15, 20, 21, 22, 37, 38, 39, 40, 41, 42, 43, 44, 45, 46, 47, 48, 49, 50, 51, 52, 53, 54, 55, 56, 57] (by decide +kernel) (by decide +kernel)
set_option maxRecDepth 20000 in
theorem gX7_issueByRegistry_X7_denies : GoodIn wsX7_issueByRegistry (wsV RX7 79 RX7 yX7_denies wsX7_denies) := goodIn_app (goodIn_of _ (by decide +kernel)) ggX7_issueByRegistry_X7_denies
set_option maxRecDepth 20000 in
theorem ggX7_issueByRegistry_X7_adds : GoodIn wsX7_issueByRegistry wsX7_adds := goodIn_ca (goodIn_r _ [26, 1, 27, 28, 29, 5, 30, 14, 31, 32, 33, 34, 35, 36, 37, 38, 39, 40, 41, 42, 43, 44, 45, 46, 47, 48, 49, 50, 51, 52, 53, 54, 55, 56, 57] (by decide +kernel) (by decide +kernel)) (goodIn_sub (fun _ h => List.mem_cons_of_mem _ (List.mem_append_right _ h)) (by decide +kernel))
set_option maxRecDepth 20000 in
theorem gX7_issueByRegistry_X7_adds : GoodIn wsX7_issueByRegistry (wsV RX7 123 RX7 yX7_adds wsX7_adds) := goodIn_app (goodIn_of _ (by decide +kernel)) ggX7_issueByRegistry_X7_adds
theorem dX7_issueByRegistry_0 : decode cX7_issueByRegistry 0 = .ok (.aload_n 0, 1) := by decide +kernel
theorem dX7_issueByRegistry_1 : decode cX7_issueByRegistry 1 = .ok (.aload_n 0, 1) := by decide +kernel
theorem dX7_issueByRegistry_2 : decode cX7_issueByRegistry 2 = .ok (.iload_n 1, 1) := by decide +kernel
theorem dX7_issueByRegistry_3 : decode cX7_issueByRegistry 3 = .ok (.invokevirtual 69, 3) := by decide +kernel
theorem dX7_issueByRegistry_6 : decode cX7_issueByRegistry 6 = .ok (.ifCond .ne 7, 3) := by decide +kernel
theorem dX7_issueByRegistry_9 : decode cX7_issueByRegistry 9 = .ok (.iconst 1, 1) := by decide +kernel
theorem dX7_issueByRegistry_10 : decode cX7_issueByRegistry 10 = .ok (.goto 18, 3) := by decide +kernel
theorem dX7_issueByRegistry_13 : decode cX7_issueByRegistry 13 = .ok (.iload_n 2, 1) := by decide +kernel
theorem dX7_issueByRegistry_14 : decode cX7_issueByRegistry 14 = .ok (.iconst 0, 1) := by decide +kernel
theorem dX7_issueByRegistry_15 : decode cX7_issueByRegistry 15 = .ok (.bipush 99, 2) := by decide +kernel
theorem dX7_issueByRegistry_17 : decode cX7_issueByRegistry 17 = .ok (.invokestatic 65, 3) := by decide +kernel
theorem dX7_issueByRegistry_20 : decode cX7_issueByRegistry 20 = .ok (.ifCond .eq 7, 3) := by decide +kernel
theorem dX7_issueByRegistry_23 : decode cX7_issueByRegistry 23 = .ok (.iconst 0, 1) := by decide +kernel
theorem dX7_issueByRegistry_24 : decode cX7_issueByRegistry 24 = .ok (.goto 4, 3) := by decide +kernel
theorem dX7_issueByRegistry_27 : decode cX7_issueByRegistry 27 = .ok (.iconst 2, 1) := by decide +kernel
theorem dX7_issueByRegistry_28 : decode cX7_issueByRegistry 28 = .ok (.invokevirtual 73, 3) := by decide +kernel
theorem dX7_issueByRegistry_31 : decode cX7_issueByRegistry 31 = .ok (.ifCond .eq 5, 3) := by decide +kernel
theorem dX7_issueByRegistry_34 : decode cX7_issueByRegistry 34 = .ok (.iconst 0, 1) := by decide +kernel
theorem dX7_issueByRegistry_35 : decode cX7_issueByRegistry 35 = .ok (.ireturn, 1) := by decide +kernel
theorem dX7_issueByRegistry_36 : decode cX7_issueByRegistry 36 = .ok (.aload_n 0, 1) := by decide +kernel
theorem dX7_issueByRegistry_37 : decode cX7_issueByRegistry 37 = .ok (.getfield 7, 3) := by decide +kernel
theorem dX7_issueByRegistry_40 : decode cX7_issueByRegistry 40 = .ok (.iconst 1, 1) := by decide +kernel
theorem dX7_issueByRegistry_41 : decode cX7_issueByRegistry 41 = .ok (.iaload, 1) := by decide +kernel
theorem dX7_issueByRegistry_42 : decode cX7_issueByRegistry 42 = .ok (.bipush 20, 2) := by decide +kernel
theorem dX7_issueByRegistry_44 : decode cX7_issueByRegistry 44 = .ok (.if_icmp .ne 12, 3) := by decide +kernel
theorem dX7_issueByRegistry_47 : decode cX7_issueByRegistry 47 = .ok (.aload_n 0, 1) := by decide +kernel
theorem dX7_issueByRegistry_48 : decode cX7_issueByRegistry 48 = .ok (.iconst 3, 1) := by decide +kernel
theorem dX7_issueByRegistry_49 : decode cX7_issueByRegistry 49 = .ok (.iconst 1, 1) := by decide +kernel
theorem dX7_issueByRegistry_50 : decode cX7_issueByRegistry 50 = .ok (.bipush 20, 2) := by decide +kernel
theorem dX7_issueByRegistry_52 : decode cX7_issueByRegistry 52 = .ok (.invokevirtual 79, 3) := by decide +kernel
theorem dX7_issueByRegistry_55 : decode cX7_issueByRegistry 55 = .ok (.ireturn, 1) := by decide +kernel
theorem dX7_issueByRegistry_56 : decode cX7_issueByRegistry 56 = .ok (.aload_n 0, 1) := by decide +kernel
theorem dX7_issueByRegistry_57 : decode cX7_issueByRegistry 57 = .ok (.iconst (-1), 1) := by decide +kernel
theorem dX7_issueByRegistry_58 : decode cX7_issueByRegistry 58 = .ok (.iload_n 1, 1) := by decide +kernel
theorem dX7_issueByRegistry_59 : decode cX7_issueByRegistry 59 = .ok (.iload_n 2, 1) := by decide +kernel
theorem dX7_issueByRegistry_60 : decode cX7_issueByRegistry 60 = .ok (.invokevirtual 123, 3) := by decide +kernel
theorem dX7_issueByRegistry_63 : decode cX7_issueByRegistry 63 = .ok (.ireturn, 1) := by decide +kernel
set_option maxRecDepth 20000 in
theorem ggX7_issue_X7_isCrow : GoodIn wsX7_issue wsX7_isCrow := goodIn_ca (goodIn_r _ [6, 1, 7, 8, 5, 9, 52, 53, 54, 55, 56, 57, 58, 59, 60, 61, 62, 63, 64, 65, 66, 67, 68, 69, 70, 71, 72] (by decide +kernel) (by decide +kernel)) (goodIn_sub (fun _ h => List.mem_cons_of_mem _ (List.mem_append_right _ h)) (by decide +kernel))
set_option maxRecDepth 20000 in
theorem gX7_issue_X7_isCrow : GoodIn wsX7_issue (wsV RX7 69 RX7 yX7_isCrow wsX7_isCrow) := goodIn_app (goodIn_of _ (by decide +kernel)) ggX7_issue_X7_isCrow
set_option maxRecDepth 20000 in
theorem ggX7_issue_X7_in : GoodIn wsX7_issue wsX7_in := goodIn_r _ [9] (by decide +kernel) (by decide +kernel)
set_option maxRecDepth 20000 in
theorem gX7_issue_X7_in : GoodIn wsX7_issue (va_wsS RX7 65 yX7_in wsX7_in) := goodIn_app (goodIn_of _ (by decide +kernel)) ggX7_issue_X7_in
set_option maxRecDepth 20000 in
theorem ggX7_issue_X7_fails : GoodIn wsX7_issue wsX7_fails := goodIn_r _ [13, 14, 15, 52, 53, 54, 55, 56, 57, 58, 59, 60, 61, 62, 63, 64, 65, 66, 67, 68, 69, 70, 71, 72] (by decide +kernel) (by decide +kernel)
set_option maxRecDepth 20000 in
theorem gX7_issue_X7_fails : GoodIn wsX7_issue (wsV RX7 73 RX7 yX7_fails wsX7_fails) := goodIn_app (goodIn_of _ (by decide +kernel)) ggX7_issue_X7_fails
set_option maxRecDepth 20000 in
theorem ggX7_issue_X7_denies : GoodIn wsX7_issue wsX7_denies := goodIn_r _ [19, 14, 15, 20, 21, 22, 52, 53, 54, 55, 56, 57, 58, 59, 60, 61, 62, 63, 64, 65, 66, 67, 68, 69, 70, 71, 72] (by decide +kernel) (by decide +kernel)
set_option maxRecDepth 20000 in
theorem gX7_issue_X7_denies : GoodIn wsX7_issue (wsV RX7 79 RX7 yX7_denies wsX7_denies) := goodIn_app (goodIn_of _ (by decide +kernel)) ggX7_issue_X7_denies
set_option maxRecDepth 20000 in
theorem ggX7_issue_X7_certified : GoodIn wsX7_issue wsX7_certified := goodIn_ca (goodIn_r _ [26, 1, 27, 28, 29, 5, 30, 31, 32, 33, 34, 35, 36, 37, 52, 53, 54, 55, 56, 57, 58, 59, 60, 61, 62, 63, 64, 65, 66, 67, 68, 69, 70, 71, 72] (by decide +kernel) (by decide +kernel)) (goodIn_sub (fun _ h => List.mem_cons_of_mem _ (List.mem_append_right _ h)) (by decide +kernel))
set_option maxRecDepth 20000 in
theorem gX7_issue_X7_certified : GoodIn wsX7_issue (wsV RX7 98 RX7 yX7_certified wsX7_certified) := goodIn_app (goodIn_of _ (by decide +kernel)) ggX7_issue_X7_certified
set_option maxRecDepth 20000 in
theorem ggX7_issue_X7_has : GoodIn wsX7_issue wsX7_has := goodIn_r _ [37] (by decide +kernel) (by decide +kernel)
set_option maxRecDepth 20000 in
theorem gX7_issue_X7_has : GoodIn wsX7_issue (va_wsS RX7 94 yX7_has wsX7_has) := goodIn_app (goodIn_of _ (by decide +kernel)) ggX7_issue_X7_has
set_option maxRecDepth 20000 in
theorem ggX7_issue_X7_adds : GoodIn wsX7_issue wsX7_adds := goodIn_ca (goodIn_r _ [41, 1, 42, 43, 44, 5, 45, 14, 46, 47, 48, 49, 50, 51, 52, 53, 54, 55, 56, 57, 58, 59, 60, 61, 62, 63, 64, 65, 66, 67, 68, 69, 70, 71, 72] (by decide +kernel) (by decide +kernel)) (goodIn_sub (fun _ h => List.mem_cons_of_mem _ (List.mem_append_right _ h)) (by decide +kernel))
set_option maxRecDepth 20000 in
theorem gX7_issue_X7_adds : GoodIn wsX7_issue (wsV RX7 123 RX7 yX7_adds wsX7_adds) := goodIn_app (goodIn_of _ (by decide +kernel)) ggX7_issue_X7_adds
theorem dX7_issue_0 : decode cX7_issue 0 = .ok (.aload_n 0, 1) := by decide +kernel
theorem dX7_issue_1 : decode cX7_issue 1 = .ok (.aload_n 0, 1) := by decide +kernel
theorem dX7_issue_2 : decode cX7_issue 2 = .ok (.iload_n 1, 1) := by decide +kernel
theorem dX7_issue_3 : decode cX7_issue 3 = .ok (.invokevirtual 69, 3) := by decide +kernel
theorem dX7_issue_6 : decode cX7_issue 6 = .ok (.ifCond .eq 11, 3) := by decide +kernel
theorem dX7_issue_9 : decode cX7_issue 9 = .ok (.aload_n 0, 1) := by decide +kernel
theorem dX7_issue_10 : decode cX7_issue 10 = .ok (.iload_n 2, 1) := by decide +kernel
theorem dX7_issue_11 : decode cX7_issue 11 = .ok (.invokevirtual 69, 3) := by decide +kernel
theorem dX7_issue_14 : decode cX7_issue 14 = .ok (.ifCond .ne 7, 3) := by decide +kernel
theorem dX7_issue_17 : decode cX7_issue 17 = .ok (.iconst 1, 1) := by decide +kernel
theorem dX7_issue_18 : decode cX7_issue 18 = .ok (.goto 18, 3) := by decide +kernel
theorem dX7_issue_21 : decode cX7_issue 21 = .ok (.iload_n 3, 1) := by decide +kernel
theorem dX7_issue_22 : decode cX7_issue 22 = .ok (.iconst 0, 1) := by decide +kernel
theorem dX7_issue_23 : decode cX7_issue 23 = .ok (.bipush 99, 2) := by decide +kernel
theorem dX7_issue_25 : decode cX7_issue 25 = .ok (.invokestatic 65, 3) := by decide +kernel
theorem dX7_issue_28 : decode cX7_issue 28 = .ok (.ifCond .eq 7, 3) := by decide +kernel
theorem dX7_issue_31 : decode cX7_issue 31 = .ok (.iconst 0, 1) := by decide +kernel
theorem dX7_issue_32 : decode cX7_issue 32 = .ok (.goto 4, 3) := by decide +kernel
theorem dX7_issue_35 : decode cX7_issue 35 = .ok (.iconst 2, 1) := by decide +kernel
theorem dX7_issue_36 : decode cX7_issue 36 = .ok (.invokevirtual 73, 3) := by decide +kernel
theorem dX7_issue_39 : decode cX7_issue 39 = .ok (.ifCond .eq 5, 3) := by decide +kernel
theorem dX7_issue_42 : decode cX7_issue 42 = .ok (.iconst 0, 1) := by decide +kernel
theorem dX7_issue_43 : decode cX7_issue 43 = .ok (.ireturn, 1) := by decide +kernel
theorem dX7_issue_44 : decode cX7_issue 44 = .ok (.iload_n 1, 1) := by decide +kernel
theorem dX7_issue_45 : decode cX7_issue 45 = .ok (.iload_n 2, 1) := by decide +kernel
theorem dX7_issue_46 : decode cX7_issue 46 = .ok (.if_icmp .ne 11, 3) := by decide +kernel
theorem dX7_issue_49 : decode cX7_issue 49 = .ok (.aload_n 0, 1) := by decide +kernel
theorem dX7_issue_50 : decode cX7_issue 50 = .ok (.iconst 3, 1) := by decide +kernel
theorem dX7_issue_51 : decode cX7_issue 51 = .ok (.iconst 4, 1) := by decide +kernel
theorem dX7_issue_52 : decode cX7_issue 52 = .ok (.iload_n 1, 1) := by decide +kernel
theorem dX7_issue_53 : decode cX7_issue 53 = .ok (.invokevirtual 79, 3) := by decide +kernel
theorem dX7_issue_56 : decode cX7_issue 56 = .ok (.ireturn, 1) := by decide +kernel
theorem dX7_issue_57 : decode cX7_issue 57 = .ok (.aload_n 0, 1) := by decide +kernel
theorem dX7_issue_58 : decode cX7_issue 58 = .ok (.aload_n 0, 1) := by decide +kernel
theorem dX7_issue_59 : decode cX7_issue 59 = .ok (.getfield 7, 3) := by decide +kernel
theorem dX7_issue_62 : decode cX7_issue 62 = .ok (.iconst 2, 1) := by decide +kernel
theorem dX7_issue_63 : decode cX7_issue 63 = .ok (.iaload, 1) := by decide +kernel
theorem dX7_issue_64 : decode cX7_issue 64 = .ok (.invokevirtual 98, 3) := by decide +kernel
theorem dX7_issue_67 : decode cX7_issue 67 = .ok (.iload_n 1, 1) := by decide +kernel
theorem dX7_issue_68 : decode cX7_issue 68 = .ok (.invokestatic 94, 3) := by decide +kernel
theorem dX7_issue_71 : decode cX7_issue 71 = .ok (.ifCond .ne 11, 3) := by decide +kernel
theorem dX7_issue_74 : decode cX7_issue 74 = .ok (.aload_n 0, 1) := by decide +kernel
theorem dX7_issue_75 : decode cX7_issue 75 = .ok (.iconst 3, 1) := by decide +kernel
theorem dX7_issue_76 : decode cX7_issue 76 = .ok (.iconst 3, 1) := by decide +kernel
theorem dX7_issue_77 : decode cX7_issue 77 = .ok (.iload_n 1, 1) := by decide +kernel
theorem dX7_issue_78 : decode cX7_issue 78 = .ok (.invokevirtual 79, 3) := by decide +kernel
theorem dX7_issue_81 : decode cX7_issue 81 = .ok (.ireturn, 1) := by decide +kernel
theorem dX7_issue_82 : decode cX7_issue 82 = .ok (.aload_n 0, 1) := by decide +kernel
theorem dX7_issue_83 : decode cX7_issue 83 = .ok (.getfield 7, 3) := by decide +kernel
theorem dX7_issue_86 : decode cX7_issue 86 = .ok (.iconst 1, 1) := by decide +kernel
theorem dX7_issue_87 : decode cX7_issue 87 = .ok (.iaload, 1) := by decide +kernel
theorem dX7_issue_88 : decode cX7_issue 88 = .ok (.bipush 20, 2) := by decide +kernel
theorem dX7_issue_90 : decode cX7_issue 90 = .ok (.if_icmp .ne 12, 3) := by decide +kernel
theorem dX7_issue_93 : decode cX7_issue 93 = .ok (.aload_n 0, 1) := by decide +kernel
theorem dX7_issue_94 : decode cX7_issue 94 = .ok (.iconst 3, 1) := by decide +kernel
theorem dX7_issue_95 : decode cX7_issue 95 = .ok (.iconst 1, 1) := by decide +kernel
theorem dX7_issue_96 : decode cX7_issue 96 = .ok (.bipush 20, 2) := by decide +kernel
theorem dX7_issue_98 : decode cX7_issue 98 = .ok (.invokevirtual 79, 3) := by decide +kernel
theorem dX7_issue_101 : decode cX7_issue 101 = .ok (.ireturn, 1) := by decide +kernel
theorem dX7_issue_102 : decode cX7_issue 102 = .ok (.aload_n 0, 1) := by decide +kernel
theorem dX7_issue_103 : decode cX7_issue 103 = .ok (.iload_n 1, 1) := by decide +kernel
theorem dX7_issue_104 : decode cX7_issue 104 = .ok (.iload_n 2, 1) := by decide +kernel
theorem dX7_issue_105 : decode cX7_issue 105 = .ok (.iload_n 3, 1) := by decide +kernel
theorem dX7_issue_106 : decode cX7_issue 106 = .ok (.invokevirtual 123, 3) := by decide +kernel
theorem dX7_issue_109 : decode cX7_issue 109 = .ok (.ireturn, 1) := by decide +kernel
theorem dX7_drops_0 : decode cX7_drops 0 = .ok (.aload_n 0, 1) := by decide +kernel
theorem dX7_drops_1 : decode cX7_drops 1 = .ok (.getfield 7, 3) := by decide +kernel
theorem dX7_drops_4 : decode cX7_drops 4 = .ok (.iconst 1, 1) := by decide +kernel
theorem dX7_drops_5 : decode cX7_drops 5 = .ok (.dup2, 1) := by decide +kernel
theorem dX7_drops_6 : decode cX7_drops 6 = .ok (.iaload, 1) := by decide +kernel
theorem dX7_drops_7 : decode cX7_drops 7 = .ok (.iconst 1, 1) := by decide +kernel
theorem dX7_drops_8 : decode cX7_drops 8 = .ok (.isub, 1) := by decide +kernel
theorem dX7_drops_9 : decode cX7_drops 9 = .ok (.iastore, 1) := by decide +kernel
theorem dX7_drops_10 : decode cX7_drops 10 = .ok (.bipush 32, 2) := by decide +kernel
theorem dX7_drops_12 : decode cX7_drops 12 = .ok (.iconst 4, 1) := by decide +kernel
theorem dX7_drops_13 : decode cX7_drops 13 = .ok (.iload_n 1, 1) := by decide +kernel
theorem dX7_drops_14 : decode cX7_drops 14 = .ok (.imul, 1) := by decide +kernel
theorem dX7_drops_15 : decode cX7_drops 15 = .ok (.iadd, 1) := by decide +kernel
theorem dX7_drops_16 : decode cX7_drops 16 = .ok (.istore_n 2, 1) := by decide +kernel
theorem dX7_drops_17 : decode cX7_drops 17 = .ok (.iload_n 2, 1) := by decide +kernel
theorem dX7_drops_18 : decode cX7_drops 18 = .ok (.bipush 32, 2) := by decide +kernel
theorem dX7_drops_20 : decode cX7_drops 20 = .ok (.iconst 4, 1) := by decide +kernel
theorem dX7_drops_21 : decode cX7_drops 21 = .ok (.aload_n 0, 1) := by decide +kernel
theorem dX7_drops_22 : decode cX7_drops 22 = .ok (.getfield 7, 3) := by decide +kernel
theorem dX7_drops_25 : decode cX7_drops 25 = .ok (.iconst 1, 1) := by decide +kernel
theorem dX7_drops_26 : decode cX7_drops 26 = .ok (.iaload, 1) := by decide +kernel
theorem dX7_drops_27 : decode cX7_drops 27 = .ok (.imul, 1) := by decide +kernel
theorem dX7_drops_28 : decode cX7_drops 28 = .ok (.iadd, 1) := by decide +kernel
theorem dX7_drops_29 : decode cX7_drops 29 = .ok (.if_icmp .ge 23, 3) := by decide +kernel
theorem dX7_drops_32 : decode cX7_drops 32 = .ok (.aload_n 0, 1) := by decide +kernel
theorem dX7_drops_33 : decode cX7_drops 33 = .ok (.getfield 7, 3) := by decide +kernel
theorem dX7_drops_36 : decode cX7_drops 36 = .ok (.iload_n 2, 1) := by decide +kernel
theorem dX7_drops_37 : decode cX7_drops 37 = .ok (.aload_n 0, 1) := by decide +kernel
theorem dX7_drops_38 : decode cX7_drops 38 = .ok (.getfield 7, 3) := by decide +kernel
theorem dX7_drops_41 : decode cX7_drops 41 = .ok (.iload_n 2, 1) := by decide +kernel
theorem dX7_drops_42 : decode cX7_drops 42 = .ok (.iconst 4, 1) := by decide +kernel
theorem dX7_drops_43 : decode cX7_drops 43 = .ok (.iadd, 1) := by decide +kernel
theorem dX7_drops_44 : decode cX7_drops 44 = .ok (.iaload, 1) := by decide +kernel
theorem dX7_drops_45 : decode cX7_drops 45 = .ok (.iastore, 1) := by decide +kernel
theorem dX7_drops_46 : decode cX7_drops 46 = .ok (.iinc 2 1, 3) := by decide +kernel
theorem dX7_drops_49 : decode cX7_drops 49 = .ok (.goto (-32), 3) := by decide +kernel
theorem dX7_drops_52 : decode cX7_drops 52 = .ok (.iconst 0, 1) := by decide +kernel
theorem dX7_drops_53 : decode cX7_drops 53 = .ok (.istore_n 2, 1) := by decide +kernel
theorem dX7_drops_54 : decode cX7_drops 54 = .ok (.iload_n 2, 1) := by decide +kernel
theorem dX7_drops_55 : decode cX7_drops 55 = .ok (.iconst 4, 1) := by decide +kernel
theorem dX7_drops_56 : decode cX7_drops 56 = .ok (.if_icmp .ge 28, 3) := by decide +kernel
theorem dX7_drops_59 : decode cX7_drops 59 = .ok (.aload_n 0, 1) := by decide +kernel
theorem dX7_drops_60 : decode cX7_drops 60 = .ok (.getfield 7, 3) := by decide +kernel
theorem dX7_drops_63 : decode cX7_drops 63 = .ok (.bipush 32, 2) := by decide +kernel
theorem dX7_drops_65 : decode cX7_drops 65 = .ok (.iconst 4, 1) := by decide +kernel
theorem dX7_drops_66 : decode cX7_drops 66 = .ok (.aload_n 0, 1) := by decide +kernel
theorem dX7_drops_67 : decode cX7_drops 67 = .ok (.getfield 7, 3) := by decide +kernel
theorem dX7_drops_70 : decode cX7_drops 70 = .ok (.iconst 1, 1) := by decide +kernel
theorem dX7_drops_71 : decode cX7_drops 71 = .ok (.iaload, 1) := by decide +kernel
theorem dX7_drops_72 : decode cX7_drops 72 = .ok (.imul, 1) := by decide +kernel
theorem dX7_drops_73 : decode cX7_drops 73 = .ok (.iadd, 1) := by decide +kernel
theorem dX7_drops_74 : decode cX7_drops 74 = .ok (.iload_n 2, 1) := by decide +kernel
theorem dX7_drops_75 : decode cX7_drops 75 = .ok (.iadd, 1) := by decide +kernel
theorem dX7_drops_76 : decode cX7_drops 76 = .ok (.iconst 0, 1) := by decide +kernel
theorem dX7_drops_77 : decode cX7_drops 77 = .ok (.iastore, 1) := by decide +kernel
theorem dX7_drops_78 : decode cX7_drops 78 = .ok (.iinc 2 1, 3) := by decide +kernel
theorem dX7_drops_81 : decode cX7_drops 81 = .ok (.goto (-27), 3) := by decide +kernel
theorem dX7_drops_84 : decode cX7_drops 84 = .ok (.return_, 1) := by decide +kernel
set_option maxRecDepth 20000 in
theorem ggX7_withdraw_X7_isLost : GoodIn wsX7_withdraw wsX7_isLost := goodIn_ca (goodIn_r _ [6, 7, 8, 9, 5, 10, 1, 11, 12, 13, 14, 15, 16, 17, 18, 19, 38, 39, 40, 41, 42, 43, 44, 45, 46, 47, 48, 49, 50, 51, 52, 53, 54, 55, 56, 57, 58] (by decide +kernel) (by decide +kernel)) (goodIn_sub (fun _ h => List.mem_cons_of_mem _ (List.mem_append_right _ h)) (by decide +kernel))
set_option maxRecDepth 20000 in
theorem gX7_withdraw_X7_isLost : GoodIn wsX7_withdraw (wsV RX7 126 RX7 yX7_isLost wsX7_isLost) := goodIn_app (goodIn_of _ (by decide +kernel)) ggX7_withdraw_X7_isLost
set_option maxRecDepth 20000 in
theorem ggX7_withdraw_X7_of : GoodIn wsX7_withdraw wsX7_of := goodIn_ca (goodIn_r _ [23, 1, 38, 39, 40, 41, 42, 43, 44, 45, 46, 47, 48, 49, 50, 51, 52, 53, 54, 55, 56, 57, 58] (by decide +kernel) (by decide +kernel)) (goodIn_sub (fun _ h => List.mem_cons_of_mem _ (List.mem_append_right _ h)) (by decide +kernel))
set_option maxRecDepth 20000 in
theorem gX7_withdraw_X7_of : GoodIn wsX7_withdraw (wsV RX7 107 RX7 yX7_of wsX7_of) := goodIn_app (goodIn_of _ (by decide +kernel)) ggX7_withdraw_X7_of
set_option maxRecDepth 20000 in
theorem ggX7_withdraw_X7_keeps : GoodIn wsX7_withdraw wsX7_keeps := goodIn_ca (goodIn_r _ [27, 18, 28, 29, 30, 31, 32, 5, 33, 38, 39, 40, 41, 42, 43, 44, 45, 46, 47, 48, 49, 50, 51, 52, 53, 54, 55, 56, 57, 58] (by decide +kernel) (by decide +kernel)) (goodIn_sub (fun _ h => List.mem_cons_of_mem _ (List.mem_append_right _ h)) (by decide +kernel))
set_option maxRecDepth 20000 in
theorem gX7_withdraw_X7_keeps : GoodIn wsX7_withdraw (wsV RX7 87 RX7 yX7_keeps wsX7_keeps) := goodIn_app (goodIn_of _ (by decide +kernel)) ggX7_withdraw_X7_keeps
set_option maxRecDepth 20000 in
theorem ggX7_withdraw_X7_drops : GoodIn wsX7_withdraw wsX7_drops := goodIn_ca (goodIn_r _ [37, 1, 38, 39, 40, 41, 42, 43, 44, 45, 46, 47, 48, 49, 50, 51, 52, 53, 54, 55, 56, 57, 58] (by decide +kernel) (by decide +kernel)) (goodIn_sub (fun _ h => List.mem_cons_of_mem _ (List.mem_append_right _ h)) (by decide +kernel))
set_option maxRecDepth 20000 in
theorem gX7_withdraw_X7_drops : GoodIn wsX7_withdraw (wsV RX7 129 RX7 yX7_drops wsX7_drops) := goodIn_app (goodIn_of _ (by decide +kernel)) ggX7_withdraw_X7_drops
theorem dX7_withdraw_0 : decode cX7_withdraw 0 = .ok (.aload_n 0, 1) := by decide +kernel
theorem dX7_withdraw_1 : decode cX7_withdraw 1 = .ok (.iload_n 1, 1) := by decide +kernel
theorem dX7_withdraw_2 : decode cX7_withdraw 2 = .ok (.invokevirtual 126, 3) := by decide +kernel
theorem dX7_withdraw_5 : decode cX7_withdraw 5 = .ok (.ifCond .eq 5, 3) := by decide +kernel
theorem dX7_withdraw_8 : decode cX7_withdraw 8 = .ok (.iconst 0, 1) := by decide +kernel
theorem dX7_withdraw_9 : decode cX7_withdraw 9 = .ok (.ireturn, 1) := by decide +kernel
theorem dX7_withdraw_10 : decode cX7_withdraw 10 = .ok (.aload_n 0, 1) := by decide +kernel
theorem dX7_withdraw_11 : decode cX7_withdraw 11 = .ok (.iload_n 1, 1) := by decide +kernel
theorem dX7_withdraw_12 : decode cX7_withdraw 12 = .ok (.iconst 1, 1) := by decide +kernel
theorem dX7_withdraw_13 : decode cX7_withdraw 13 = .ok (.invokevirtual 107, 3) := by decide +kernel
theorem dX7_withdraw_16 : decode cX7_withdraw 16 = .ok (.istore_n 2, 1) := by decide +kernel
theorem dX7_withdraw_17 : decode cX7_withdraw 17 = .ok (.aload_n 0, 1) := by decide +kernel
theorem dX7_withdraw_18 : decode cX7_withdraw 18 = .ok (.aload_n 0, 1) := by decide +kernel
theorem dX7_withdraw_19 : decode cX7_withdraw 19 = .ok (.getfield 7, 3) := by decide +kernel
theorem dX7_withdraw_22 : decode cX7_withdraw 22 = .ok (.invokevirtual 87, 3) := by decide +kernel
theorem dX7_withdraw_25 : decode cX7_withdraw 25 = .ok (.aload_n 0, 1) := by decide +kernel
theorem dX7_withdraw_26 : decode cX7_withdraw 26 = .ok (.iload_n 1, 1) := by decide +kernel
theorem dX7_withdraw_27 : decode cX7_withdraw 27 = .ok (.invokevirtual 129, 3) := by decide +kernel
theorem dX7_withdraw_30 : decode cX7_withdraw 30 = .ok (.iload_n 2, 1) := by decide +kernel
theorem dX7_withdraw_31 : decode cX7_withdraw 31 = .ok (.ireturn, 1) := by decide +kernel
theorem dX7_certificateCount_0 : decode cX7_certificateCount 0 = .ok (.aload_n 0, 1) := by decide +kernel
theorem dX7_certificateCount_1 : decode cX7_certificateCount 1 = .ok (.iconst 0, 1) := by decide +kernel
theorem dX7_certificateCount_2 : decode cX7_certificateCount 2 = .ok (.putfield 39, 3) := by decide +kernel
theorem dX7_certificateCount_5 : decode cX7_certificateCount 5 = .ok (.aload_n 0, 1) := by decide +kernel
theorem dX7_certificateCount_6 : decode cX7_certificateCount 6 = .ok (.getfield 7, 3) := by decide +kernel
theorem dX7_certificateCount_9 : decode cX7_certificateCount 9 = .ok (.iconst 1, 1) := by decide +kernel
theorem dX7_certificateCount_10 : decode cX7_certificateCount 10 = .ok (.iaload, 1) := by decide +kernel
theorem dX7_certificateCount_11 : decode cX7_certificateCount 11 = .ok (.ireturn, 1) := by decide +kernel
set_option maxRecDepth 20000 in
theorem ggX7_isByRegistry_X7_isLost : GoodIn wsX7_isByRegistry wsX7_isLost := goodIn_ca (goodIn_r _ [5, 6, 7, 8, 4, 9, 10, 11, 12, 13, 14, 15, 16, 17, 18, 19, 24, 25, 26, 27, 28, 29, 30, 31, 32, 33, 34, 35, 36, 37, 38, 39, 40, 41, 42, 43, 44] (by decide +kernel) (by decide +kernel)) (goodIn_sub (fun _ h => List.mem_cons_of_mem _ (List.mem_append_right _ h)) (by decide +kernel))
set_option maxRecDepth 20000 in
theorem gX7_isByRegistry_X7_isLost : GoodIn wsX7_isByRegistry (wsV RX7 126 RX7 yX7_isLost wsX7_isLost) := goodIn_app (goodIn_of _ (by decide +kernel)) ggX7_isByRegistry_X7_isLost
set_option maxRecDepth 20000 in
theorem ggX7_isByRegistry_X7_of : GoodIn wsX7_isByRegistry wsX7_of := goodIn_ca (goodIn_r _ [23, 10, 24, 25, 26, 27, 28, 29, 30, 31, 32, 33, 34, 35, 36, 37, 38, 39, 40, 41, 42, 43, 44] (by decide +kernel) (by decide +kernel)) (goodIn_sub (fun _ h => List.mem_cons_of_mem _ (List.mem_append_right _ h)) (by decide +kernel))
set_option maxRecDepth 20000 in
theorem gX7_isByRegistry_X7_of : GoodIn wsX7_isByRegistry (wsV RX7 107 RX7 yX7_of wsX7_of) := goodIn_app (goodIn_of _ (by decide +kernel)) ggX7_isByRegistry_X7_of
theorem dX7_isByRegistry_0 : decode cX7_isByRegistry 0 = .ok (.aload_n 0, 1) := by decide +kernel
theorem dX7_isByRegistry_1 : decode cX7_isByRegistry 1 = .ok (.iload_n 1, 1) := by decide +kernel
theorem dX7_isByRegistry_2 : decode cX7_isByRegistry 2 = .ok (.invokevirtual 126, 3) := by decide +kernel
theorem dX7_isByRegistry_5 : decode cX7_isByRegistry 5 = .ok (.ifCond .ne 16, 3) := by decide +kernel
theorem dX7_isByRegistry_8 : decode cX7_isByRegistry 8 = .ok (.aload_n 0, 1) := by decide +kernel
theorem dX7_isByRegistry_9 : decode cX7_isByRegistry 9 = .ok (.iload_n 1, 1) := by decide +kernel
theorem dX7_isByRegistry_10 : decode cX7_isByRegistry 10 = .ok (.iconst 0, 1) := by decide +kernel
theorem dX7_isByRegistry_11 : decode cX7_isByRegistry 11 = .ok (.invokevirtual 107, 3) := by decide +kernel
theorem dX7_isByRegistry_14 : decode cX7_isByRegistry 14 = .ok (.ifCond .ge 7, 3) := by decide +kernel
theorem dX7_isByRegistry_17 : decode cX7_isByRegistry 17 = .ok (.iconst 1, 1) := by decide +kernel
theorem dX7_isByRegistry_18 : decode cX7_isByRegistry 18 = .ok (.goto 4, 3) := by decide +kernel
theorem dX7_isByRegistry_21 : decode cX7_isByRegistry 21 = .ok (.iconst 0, 1) := by decide +kernel
theorem dX7_isByRegistry_22 : decode cX7_isByRegistry 22 = .ok (.ireturn, 1) := by decide +kernel
set_option maxRecDepth 20000 in
theorem ggX7_issuerOf_X7_isCert : GoodIn wsX7_issuerOf wsX7_isCert := goodIn_ca (goodIn_r _ [5, 6, 7, 8, 4, 9, 20, 21, 22, 23, 24, 25, 26, 27, 28, 29, 30, 31, 32, 33, 34, 35, 36, 37, 38, 39, 40] (by decide +kernel) (by decide +kernel)) (goodIn_sub (fun _ h => List.mem_cons_of_mem _ (List.mem_append_right _ h)) (by decide +kernel))
set_option maxRecDepth 20000 in
theorem gX7_issuerOf_X7_isCert : GoodIn wsX7_issuerOf (wsV RX7 104 RX7 yX7_isCert wsX7_isCert) := goodIn_app (goodIn_of _ (by decide +kernel)) ggX7_issuerOf_X7_isCert
set_option maxRecDepth 20000 in
theorem ggX7_issuerOf_X7_of : GoodIn wsX7_issuerOf wsX7_of := goodIn_ca (goodIn_r _ [13, 6, 20, 21, 22, 23, 24, 25, 26, 27, 28, 29, 30, 31, 32, 33, 34, 35, 36, 37, 38, 39, 40] (by decide +kernel) (by decide +kernel)) (goodIn_sub (fun _ h => List.mem_cons_of_mem _ (List.mem_append_right _ h)) (by decide +kernel))
set_option maxRecDepth 20000 in
theorem gX7_issuerOf_X7_of : GoodIn wsX7_issuerOf (wsV RX7 107 RX7 yX7_of wsX7_of) := goodIn_app (goodIn_of _ (by decide +kernel)) ggX7_issuerOf_X7_of
set_option maxRecDepth 20000 in
theorem ggX7_issuerOf_X7_fails : GoodIn wsX7_issuerOf wsX7_fails := goodIn_r _ [17, 18, 19, 20, 21, 22, 23, 24, 25, 26, 27, 28, 29, 30, 31, 32, 33, 34, 35, 36, 37, 38, 39, 40] (by decide +kernel) (by decide +kernel)
set_option maxRecDepth 20000 in
theorem gX7_issuerOf_X7_fails : GoodIn wsX7_issuerOf (wsV RX7 73 RX7 yX7_fails wsX7_fails) := goodIn_app (goodIn_of _ (by decide +kernel)) ggX7_issuerOf_X7_fails
theorem dX7_issuerOf_0 : decode cX7_issuerOf 0 = .ok (.aload_n 0, 1) := by decide +kernel
theorem dX7_issuerOf_1 : decode cX7_issuerOf 1 = .ok (.aload_n 0, 1) := by decide +kernel
theorem dX7_issuerOf_2 : decode cX7_issuerOf 2 = .ok (.iload_n 1, 1) := by decide +kernel
theorem dX7_issuerOf_3 : decode cX7_issuerOf 3 = .ok (.invokevirtual 104, 3) := by decide +kernel
theorem dX7_issuerOf_6 : decode cX7_issuerOf 6 = .ok (.ifCond .ne 7, 3) := by decide +kernel
theorem dX7_issuerOf_9 : decode cX7_issuerOf 9 = .ok (.iconst 1, 1) := by decide +kernel
theorem dX7_issuerOf_10 : decode cX7_issuerOf 10 = .ok (.goto 17, 3) := by decide +kernel
theorem dX7_issuerOf_13 : decode cX7_issuerOf 13 = .ok (.aload_n 0, 1) := by decide +kernel
theorem dX7_issuerOf_14 : decode cX7_issuerOf 14 = .ok (.iload_n 1, 1) := by decide +kernel
theorem dX7_issuerOf_15 : decode cX7_issuerOf 15 = .ok (.iconst 0, 1) := by decide +kernel
theorem dX7_issuerOf_16 : decode cX7_issuerOf 16 = .ok (.invokevirtual 107, 3) := by decide +kernel
theorem dX7_issuerOf_19 : decode cX7_issuerOf 19 = .ok (.ifCond .ge 7, 3) := by decide +kernel
theorem dX7_issuerOf_22 : decode cX7_issuerOf 22 = .ok (.iconst 2, 1) := by decide +kernel
theorem dX7_issuerOf_23 : decode cX7_issuerOf 23 = .ok (.goto 4, 3) := by decide +kernel
theorem dX7_issuerOf_26 : decode cX7_issuerOf 26 = .ok (.iconst 0, 1) := by decide +kernel
theorem dX7_issuerOf_27 : decode cX7_issuerOf 27 = .ok (.invokevirtual 73, 3) := by decide +kernel
theorem dX7_issuerOf_30 : decode cX7_issuerOf 30 = .ok (.ifCond .eq 7, 3) := by decide +kernel
theorem dX7_issuerOf_33 : decode cX7_issuerOf 33 = .ok (.iconst 0, 1) := by decide +kernel
theorem dX7_issuerOf_34 : decode cX7_issuerOf 34 = .ok (.goto 9, 3) := by decide +kernel
theorem dX7_issuerOf_37 : decode cX7_issuerOf 37 = .ok (.aload_n 0, 1) := by decide +kernel
theorem dX7_issuerOf_38 : decode cX7_issuerOf 38 = .ok (.iload_n 1, 1) := by decide +kernel
theorem dX7_issuerOf_39 : decode cX7_issuerOf 39 = .ok (.iconst 0, 1) := by decide +kernel
theorem dX7_issuerOf_40 : decode cX7_issuerOf 40 = .ok (.invokevirtual 107, 3) := by decide +kernel
theorem dX7_issuerOf_43 : decode cX7_issuerOf 43 = .ok (.ireturn, 1) := by decide +kernel
set_option maxRecDepth 20000 in
theorem ggX7_subjectOf_X7_isLost : GoodIn wsX7_subjectOf wsX7_isLost := goodIn_ca (goodIn_r _ [5, 6, 7, 8, 4, 9, 10, 11, 12, 13, 14, 15, 16, 17, 18, 19, 24, 25, 26, 27, 28, 29, 30, 31, 32, 33, 34, 35, 36, 37, 38, 39, 40, 41, 42, 43, 44] (by decide +kernel) (by decide +kernel)) (goodIn_sub (fun _ h => List.mem_cons_of_mem _ (List.mem_append_right _ h)) (by decide +kernel))
set_option maxRecDepth 20000 in
theorem gX7_subjectOf_X7_isLost : GoodIn wsX7_subjectOf (wsV RX7 126 RX7 yX7_isLost wsX7_isLost) := goodIn_app (goodIn_of _ (by decide +kernel)) ggX7_subjectOf_X7_isLost
set_option maxRecDepth 20000 in
theorem ggX7_subjectOf_X7_of : GoodIn wsX7_subjectOf wsX7_of := goodIn_ca (goodIn_r _ [23, 10, 24, 25, 26, 27, 28, 29, 30, 31, 32, 33, 34, 35, 36, 37, 38, 39, 40, 41, 42, 43, 44] (by decide +kernel) (by decide +kernel)) (goodIn_sub (fun _ h => List.mem_cons_of_mem _ (List.mem_append_right _ h)) (by decide +kernel))
set_option maxRecDepth 20000 in
theorem gX7_subjectOf_X7_of : GoodIn wsX7_subjectOf (wsV RX7 107 RX7 yX7_of wsX7_of) := goodIn_app (goodIn_of _ (by decide +kernel)) ggX7_subjectOf_X7_of
theorem dX7_subjectOf_0 : decode cX7_subjectOf 0 = .ok (.aload_n 0, 1) := by decide +kernel
theorem dX7_subjectOf_1 : decode cX7_subjectOf 1 = .ok (.iload_n 1, 1) := by decide +kernel
theorem dX7_subjectOf_2 : decode cX7_subjectOf 2 = .ok (.invokevirtual 126, 3) := by decide +kernel
theorem dX7_subjectOf_5 : decode cX7_subjectOf 5 = .ok (.ifCond .eq 7, 3) := by decide +kernel
theorem dX7_subjectOf_8 : decode cX7_subjectOf 8 = .ok (.iconst 0, 1) := by decide +kernel
theorem dX7_subjectOf_9 : decode cX7_subjectOf 9 = .ok (.goto 9, 3) := by decide +kernel
theorem dX7_subjectOf_12 : decode cX7_subjectOf 12 = .ok (.aload_n 0, 1) := by decide +kernel
theorem dX7_subjectOf_13 : decode cX7_subjectOf 13 = .ok (.iload_n 1, 1) := by decide +kernel
theorem dX7_subjectOf_14 : decode cX7_subjectOf 14 = .ok (.iconst 1, 1) := by decide +kernel
theorem dX7_subjectOf_15 : decode cX7_subjectOf 15 = .ok (.invokevirtual 107, 3) := by decide +kernel
theorem dX7_subjectOf_18 : decode cX7_subjectOf 18 = .ok (.ireturn, 1) := by decide +kernel
set_option maxRecDepth 20000 in
theorem ggX7_addressOf_X7_isLost : GoodIn wsX7_addressOf wsX7_isLost := goodIn_ca (goodIn_r _ [5, 6, 7, 8, 4, 9, 10, 11, 12, 13, 14, 15, 16, 17, 18, 19, 24, 25, 26, 27, 28, 29, 30, 31, 32, 33, 34, 35, 36, 37, 38, 39, 40, 41, 42, 43, 44] (by decide +kernel) (by decide +kernel)) (goodIn_sub (fun _ h => List.mem_cons_of_mem _ (List.mem_append_right _ h)) (by decide +kernel))
set_option maxRecDepth 20000 in
theorem gX7_addressOf_X7_isLost : GoodIn wsX7_addressOf (wsV RX7 126 RX7 yX7_isLost wsX7_isLost) := goodIn_app (goodIn_of _ (by decide +kernel)) ggX7_addressOf_X7_isLost
set_option maxRecDepth 20000 in
theorem ggX7_addressOf_X7_of : GoodIn wsX7_addressOf wsX7_of := goodIn_ca (goodIn_r _ [23, 10, 24, 25, 26, 27, 28, 29, 30, 31, 32, 33, 34, 35, 36, 37, 38, 39, 40, 41, 42, 43, 44] (by decide +kernel) (by decide +kernel)) (goodIn_sub (fun _ h => List.mem_cons_of_mem _ (List.mem_append_right _ h)) (by decide +kernel))
set_option maxRecDepth 20000 in
theorem gX7_addressOf_X7_of : GoodIn wsX7_addressOf (wsV RX7 107 RX7 yX7_of wsX7_of) := goodIn_app (goodIn_of _ (by decide +kernel)) ggX7_addressOf_X7_of
theorem dX7_addressOf_0 : decode cX7_addressOf 0 = .ok (.aload_n 0, 1) := by decide +kernel
theorem dX7_addressOf_1 : decode cX7_addressOf 1 = .ok (.iload_n 1, 1) := by decide +kernel
theorem dX7_addressOf_2 : decode cX7_addressOf 2 = .ok (.invokevirtual 126, 3) := by decide +kernel
theorem dX7_addressOf_5 : decode cX7_addressOf 5 = .ok (.ifCond .eq 7, 3) := by decide +kernel
theorem dX7_addressOf_8 : decode cX7_addressOf 8 = .ok (.iconst 0, 1) := by decide +kernel
theorem dX7_addressOf_9 : decode cX7_addressOf 9 = .ok (.goto 9, 3) := by decide +kernel
theorem dX7_addressOf_12 : decode cX7_addressOf 12 = .ok (.aload_n 0, 1) := by decide +kernel
theorem dX7_addressOf_13 : decode cX7_addressOf 13 = .ok (.iload_n 1, 1) := by decide +kernel
theorem dX7_addressOf_14 : decode cX7_addressOf 14 = .ok (.iconst 2, 1) := by decide +kernel
theorem dX7_addressOf_15 : decode cX7_addressOf 15 = .ok (.invokevirtual 107, 3) := by decide +kernel
theorem dX7_addressOf_18 : decode cX7_addressOf 18 = .ok (.ireturn, 1) := by decide +kernel
set_option maxRecDepth 20000 in
theorem ggX7_lastDayOf_X7_isLost : GoodIn wsX7_lastDayOf wsX7_isLost := goodIn_ca (goodIn_r _ [5, 6, 7, 8, 4, 9, 10, 11, 12, 13, 14, 15, 16, 17, 18, 19, 24, 25, 26, 27, 28, 29, 30, 31, 32, 33, 34, 35, 36, 37, 38, 39, 40, 41, 42, 43, 44] (by decide +kernel) (by decide +kernel)) (goodIn_sub (fun _ h => List.mem_cons_of_mem _ (List.mem_append_right _ h)) (by decide +kernel))
set_option maxRecDepth 20000 in
theorem gX7_lastDayOf_X7_isLost : GoodIn wsX7_lastDayOf (wsV RX7 126 RX7 yX7_isLost wsX7_isLost) := goodIn_app (goodIn_of _ (by decide +kernel)) ggX7_lastDayOf_X7_isLost
set_option maxRecDepth 20000 in
theorem ggX7_lastDayOf_X7_of : GoodIn wsX7_lastDayOf wsX7_of := goodIn_ca (goodIn_r _ [23, 10, 24, 25, 26, 27, 28, 29, 30, 31, 32, 33, 34, 35, 36, 37, 38, 39, 40, 41, 42, 43, 44] (by decide +kernel) (by decide +kernel)) (goodIn_sub (fun _ h => List.mem_cons_of_mem _ (List.mem_append_right _ h)) (by decide +kernel))
set_option maxRecDepth 20000 in
theorem gX7_lastDayOf_X7_of : GoodIn wsX7_lastDayOf (wsV RX7 107 RX7 yX7_of wsX7_of) := goodIn_app (goodIn_of _ (by decide +kernel)) ggX7_lastDayOf_X7_of
theorem dX7_lastDayOf_0 : decode cX7_lastDayOf 0 = .ok (.aload_n 0, 1) := by decide +kernel
theorem dX7_lastDayOf_1 : decode cX7_lastDayOf 1 = .ok (.iload_n 1, 1) := by decide +kernel
theorem dX7_lastDayOf_2 : decode cX7_lastDayOf 2 = .ok (.invokevirtual 126, 3) := by decide +kernel
theorem dX7_lastDayOf_5 : decode cX7_lastDayOf 5 = .ok (.ifCond .eq 7, 3) := by decide +kernel
theorem dX7_lastDayOf_8 : decode cX7_lastDayOf 8 = .ok (.iconst 0, 1) := by decide +kernel
theorem dX7_lastDayOf_9 : decode cX7_lastDayOf 9 = .ok (.goto 9, 3) := by decide +kernel
theorem dX7_lastDayOf_12 : decode cX7_lastDayOf 12 = .ok (.aload_n 0, 1) := by decide +kernel
theorem dX7_lastDayOf_13 : decode cX7_lastDayOf 13 = .ok (.iload_n 1, 1) := by decide +kernel
theorem dX7_lastDayOf_14 : decode cX7_lastDayOf 14 = .ok (.iconst 3, 1) := by decide +kernel
theorem dX7_lastDayOf_15 : decode cX7_lastDayOf 15 = .ok (.invokevirtual 107, 3) := by decide +kernel
theorem dX7_lastDayOf_18 : decode cX7_lastDayOf 18 = .ok (.ireturn, 1) := by decide +kernel
set_option maxRecDepth 20000 in
theorem ggX7_isInForce_X7_isLost : GoodIn wsX7_isInForce wsX7_isLost := goodIn_ca (goodIn_r _ [5, 6, 7, 8, 4, 9, 10, 11, 12, 13, 14, 15, 16, 17, 18, 19, 39, 40, 41, 42, 43, 44, 45, 46, 47, 48, 49, 50, 51, 52, 53, 54, 55, 56, 57, 58, 59] (by decide +kernel) (by decide +kernel)) (goodIn_sub (fun _ h => List.mem_cons_of_mem _ (List.mem_append_right _ h)) (by decide +kernel))
set_option maxRecDepth 20000 in
theorem gX7_isInForce_X7_isLost : GoodIn wsX7_isInForce (wsV RX7 126 RX7 yX7_isLost wsX7_isLost) := goodIn_app (goodIn_of _ (by decide +kernel)) ggX7_isInForce_X7_isLost
set_option maxRecDepth 20000 in
theorem ggX7_isInForce_X7_isValid : GoodIn wsX7_isInForce wsX7_isValid := goodIn_ca (goodIn_r _ [23, 10, 24, 25, 26, 4, 27, 28, 29, 30, 31, 32, 33, 34, 35, 36, 37, 38, 39, 40, 41, 42, 43, 44, 45, 46, 47, 48, 49, 50, 51, 52, 53, 54, 55, 56, 57, 58, 59] (by decide +kernel) (by decide +kernel)) (goodIn_sub (fun _ h => List.mem_cons_of_mem _ (List.mem_append_right _ h)) (by decide +kernel))
set_option maxRecDepth 20000 in
theorem gX7_isInForce_X7_isValid : GoodIn wsX7_isInForce (wsV RX7 117 RX7 yX7_isValid wsX7_isValid) := goodIn_app (goodIn_of _ (by decide +kernel)) ggX7_isInForce_X7_isValid
theorem dX7_isInForce_0 : decode cX7_isInForce 0 = .ok (.aload_n 0, 1) := by decide +kernel
theorem dX7_isInForce_1 : decode cX7_isInForce 1 = .ok (.iload_n 1, 1) := by decide +kernel
theorem dX7_isInForce_2 : decode cX7_isInForce 2 = .ok (.invokevirtual 126, 3) := by decide +kernel
theorem dX7_isInForce_5 : decode cX7_isInForce 5 = .ok (.ifCond .ne 15, 3) := by decide +kernel
theorem dX7_isInForce_8 : decode cX7_isInForce 8 = .ok (.aload_n 0, 1) := by decide +kernel
theorem dX7_isInForce_9 : decode cX7_isInForce 9 = .ok (.iload_n 1, 1) := by decide +kernel
theorem dX7_isInForce_10 : decode cX7_isInForce 10 = .ok (.invokevirtual 117, 3) := by decide +kernel
theorem dX7_isInForce_13 : decode cX7_isInForce 13 = .ok (.ifCond .eq 7, 3) := by decide +kernel
theorem dX7_isInForce_16 : decode cX7_isInForce 16 = .ok (.iconst 1, 1) := by decide +kernel
theorem dX7_isInForce_17 : decode cX7_isInForce 17 = .ok (.goto 4, 3) := by decide +kernel
theorem dX7_isInForce_20 : decode cX7_isInForce 20 = .ok (.iconst 0, 1) := by decide +kernel
theorem dX7_isInForce_21 : decode cX7_isInForce 21 = .ok (.ireturn, 1) := by decide +kernel
set_option maxRecDepth 20000 in
theorem ggX7_valid_X7_isValid : GoodIn wsX7_valid wsX7_isValid := goodIn_ca (goodIn_r _ [6, 1, 7, 8, 9, 5, 10, 11, 12, 13, 14, 15, 16, 17, 18, 19, 20, 21, 22, 23, 24, 25, 26, 27, 28, 29, 30, 31, 32, 33, 34, 35, 36, 37, 38, 39, 40, 41, 42] (by decide +kernel) (by decide +kernel)) (goodIn_sub (fun _ h => List.mem_cons_of_mem _ (List.mem_append_right _ h)) (by decide +kernel))
set_option maxRecDepth 20000 in
theorem gX7_valid_X7_isValid : GoodIn wsX7_valid (wsV RX7 117 RX7 yX7_isValid wsX7_isValid) := goodIn_app (goodIn_of _ (by decide +kernel)) ggX7_valid_X7_isValid
theorem dX7_valid_0 : decode cX7_valid 0 = .ok (.iconst 0, 1) := by decide +kernel
theorem dX7_valid_1 : decode cX7_valid 1 = .ok (.istore_n 1, 1) := by decide +kernel
theorem dX7_valid_2 : decode cX7_valid 2 = .ok (.iconst 0, 1) := by decide +kernel
theorem dX7_valid_3 : decode cX7_valid 3 = .ok (.istore_n 2, 1) := by decide +kernel
theorem dX7_valid_4 : decode cX7_valid 4 = .ok (.iload_n 2, 1) := by decide +kernel
theorem dX7_valid_5 : decode cX7_valid 5 = .ok (.aload_n 0, 1) := by decide +kernel
theorem dX7_valid_6 : decode cX7_valid 6 = .ok (.getfield 7, 3) := by decide +kernel
theorem dX7_valid_9 : decode cX7_valid 9 = .ok (.iconst 1, 1) := by decide +kernel
theorem dX7_valid_10 : decode cX7_valid 10 = .ok (.iaload, 1) := by decide +kernel
theorem dX7_valid_11 : decode cX7_valid 11 = .ok (.if_icmp .ge 25, 3) := by decide +kernel
theorem dX7_valid_14 : decode cX7_valid 14 = .ok (.iload_n 1, 1) := by decide +kernel
theorem dX7_valid_15 : decode cX7_valid 15 = .ok (.aload_n 0, 1) := by decide +kernel
theorem dX7_valid_16 : decode cX7_valid 16 = .ok (.iload_n 2, 1) := by decide +kernel
theorem dX7_valid_17 : decode cX7_valid 17 = .ok (.invokevirtual 117, 3) := by decide +kernel
theorem dX7_valid_20 : decode cX7_valid 20 = .ok (.ifCond .eq 7, 3) := by decide +kernel
theorem dX7_valid_23 : decode cX7_valid 23 = .ok (.iconst 1, 1) := by decide +kernel
theorem dX7_valid_24 : decode cX7_valid 24 = .ok (.goto 4, 3) := by decide +kernel
theorem dX7_valid_27 : decode cX7_valid 27 = .ok (.iconst 0, 1) := by decide +kernel
theorem dX7_valid_28 : decode cX7_valid 28 = .ok (.iadd, 1) := by decide +kernel
theorem dX7_valid_29 : decode cX7_valid 29 = .ok (.istore_n 1, 1) := by decide +kernel
theorem dX7_valid_30 : decode cX7_valid 30 = .ok (.iinc 2 1, 3) := by decide +kernel
theorem dX7_valid_33 : decode cX7_valid 33 = .ok (.goto (-29), 3) := by decide +kernel
theorem dX7_valid_36 : decode cX7_valid 36 = .ok (.iload_n 1, 1) := by decide +kernel
theorem dX7_valid_37 : decode cX7_valid 37 = .ok (.ireturn, 1) := by decide +kernel
set_option maxRecDepth 20000 in
theorem ggX7_inForceCount_X7_valid : GoodIn wsX7_inForceCount wsX7_valid := goodIn_ca (goodIn_r _ [6, 7, 8, 9, 10, 5, 11, 12, 13, 14, 15, 16, 17, 18, 19, 20, 21, 22, 23, 24, 25, 26, 27, 28, 29, 30, 31, 32, 33, 34, 35, 36, 37, 38, 39, 40, 41, 42, 43, 44, 45, 46, 47] (by decide +kernel) (by decide +kernel)) (goodIn_sub (fun _ h => List.mem_cons_of_mem _ (List.mem_append_right _ h)) (by decide +kernel))
set_option maxRecDepth 20000 in
theorem gX7_inForceCount_X7_valid : GoodIn wsX7_inForceCount (wsV RX7 133 RX7 yX7_valid wsX7_valid) := goodIn_app (goodIn_of _ (by decide +kernel)) ggX7_inForceCount_X7_valid
theorem dX7_inForceCount_0 : decode cX7_inForceCount 0 = .ok (.aload_n 0, 1) := by decide +kernel
theorem dX7_inForceCount_1 : decode cX7_inForceCount 1 = .ok (.iconst 0, 1) := by decide +kernel
theorem dX7_inForceCount_2 : decode cX7_inForceCount 2 = .ok (.putfield 39, 3) := by decide +kernel
theorem dX7_inForceCount_5 : decode cX7_inForceCount 5 = .ok (.aload_n 0, 1) := by decide +kernel
theorem dX7_inForceCount_6 : decode cX7_inForceCount 6 = .ok (.invokevirtual 133, 3) := by decide +kernel
theorem dX7_inForceCount_9 : decode cX7_inForceCount 9 = .ok (.ireturn, 1) := by decide +kernel
set_option maxRecDepth 20000 in
theorem ggX7_sow_X7_isField : GoodIn wsX7_sow wsX7_isField := goodIn_r _ [5, 6, 7, 4, 8] (by decide +kernel) (by decide +kernel)
set_option maxRecDepth 20000 in
theorem gX7_sow_X7_isField : GoodIn wsX7_sow (va_wsS RX7 76 yX7_isField wsX7_isField) := goodIn_app (goodIn_of _ (by decide +kernel)) ggX7_sow_X7_isField
set_option maxRecDepth 20000 in
theorem ggX7_sow_X7_in : GoodIn wsX7_sow wsX7_in := goodIn_r _ [8] (by decide +kernel) (by decide +kernel)
set_option maxRecDepth 20000 in
theorem gX7_sow_X7_in : GoodIn wsX7_sow (va_wsS RX7 65 yX7_in wsX7_in) := goodIn_app (goodIn_of _ (by decide +kernel)) ggX7_sow_X7_in
set_option maxRecDepth 20000 in
theorem ggX7_sow_X7_fails : GoodIn wsX7_sow wsX7_fails := goodIn_r _ [12, 13, 14, 32, 33, 34, 35, 36, 37, 38, 39, 40, 41, 42, 43, 44, 45, 46, 47, 48, 49, 50, 51, 52] (by decide +kernel) (by decide +kernel)
set_option maxRecDepth 20000 in
theorem gX7_sow_X7_fails : GoodIn wsX7_sow (wsV RX7 73 RX7 yX7_fails wsX7_fails) := goodIn_app (goodIn_of _ (by decide +kernel)) ggX7_sow_X7_fails
set_option maxRecDepth 20000 in
theorem ggX7_sow_X7_denies : GoodIn wsX7_sow wsX7_denies := goodIn_r _ [18, 13, 14, 19, 20, 21, 32, 33, 34, 35, 36, 37, 38, 39, 40, 41, 42, 43, 44, 45, 46, 47, 48, 49, 50, 51, 52] (by decide +kernel) (by decide +kernel)
set_option maxRecDepth 20000 in
theorem gX7_sow_X7_denies : GoodIn wsX7_sow (wsV RX7 79 RX7 yX7_denies wsX7_denies) := goodIn_app (goodIn_of _ (by decide +kernel)) ggX7_sow_X7_denies
set_option maxRecDepth 20000 in
theorem ggX7_sow_X7_keeps : GoodIn wsX7_sow wsX7_keeps := goodIn_ca (goodIn_r _ [25, 13, 26, 27, 28, 29, 30, 4, 31, 32, 33, 34, 35, 36, 37, 38, 39, 40, 41, 42, 43, 44, 45, 46, 47, 48, 49, 50, 51, 52] (by decide +kernel) (by decide +kernel)) (goodIn_sub (fun _ h => List.mem_cons_of_mem _ (List.mem_append_right _ h)) (by decide +kernel))
set_option maxRecDepth 20000 in
theorem gX7_sow_X7_keeps : GoodIn wsX7_sow (wsV RX7 87 RX7 yX7_keeps wsX7_keeps) := goodIn_app (goodIn_of _ (by decide +kernel)) ggX7_sow_X7_keeps
theorem dX7_sow_0 : decode cX7_sow 0 = .ok (.aload_n 0, 1) := by decide +kernel
theorem dX7_sow_1 : decode cX7_sow 1 = .ok (.iload_n 1, 1) := by decide +kernel
theorem dX7_sow_2 : decode cX7_sow 2 = .ok (.invokestatic 76, 3) := by decide +kernel
theorem dX7_sow_5 : decode cX7_sow 5 = .ok (.ifCond .eq 17, 3) := by decide +kernel
theorem dX7_sow_8 : decode cX7_sow 8 = .ok (.iload_n 2, 1) := by decide +kernel
theorem dX7_sow_9 : decode cX7_sow 9 = .ok (.iconst 1, 1) := by decide +kernel
theorem dX7_sow_10 : decode cX7_sow 10 = .ok (.bipush 99, 2) := by decide +kernel
theorem dX7_sow_12 : decode cX7_sow 12 = .ok (.invokestatic 65, 3) := by decide +kernel
theorem dX7_sow_15 : decode cX7_sow 15 = .ok (.ifCond .eq 7, 3) := by decide +kernel
theorem dX7_sow_18 : decode cX7_sow 18 = .ok (.iconst 0, 1) := by decide +kernel
theorem dX7_sow_19 : decode cX7_sow 19 = .ok (.goto 4, 3) := by decide +kernel
theorem dX7_sow_22 : decode cX7_sow 22 = .ok (.iconst 1, 1) := by decide +kernel
theorem dX7_sow_23 : decode cX7_sow 23 = .ok (.invokevirtual 73, 3) := by decide +kernel
theorem dX7_sow_26 : decode cX7_sow 26 = .ok (.ifCond .eq 5, 3) := by decide +kernel
theorem dX7_sow_29 : decode cX7_sow 29 = .ok (.iconst 0, 1) := by decide +kernel
theorem dX7_sow_30 : decode cX7_sow 30 = .ok (.ireturn, 1) := by decide +kernel
theorem dX7_sow_31 : decode cX7_sow 31 = .ok (.aload_n 0, 1) := by decide +kernel
theorem dX7_sow_32 : decode cX7_sow 32 = .ok (.getfield 7, 3) := by decide +kernel
theorem dX7_sow_35 : decode cX7_sow 35 = .ok (.bipush 16, 2) := by decide +kernel
theorem dX7_sow_37 : decode cX7_sow 37 = .ok (.iload_n 1, 1) := by decide +kernel
theorem dX7_sow_38 : decode cX7_sow 38 = .ok (.iadd, 1) := by decide +kernel
theorem dX7_sow_39 : decode cX7_sow 39 = .ok (.iaload, 1) := by decide +kernel
theorem dX7_sow_40 : decode cX7_sow 40 = .ok (.iload_n 2, 1) := by decide +kernel
theorem dX7_sow_41 : decode cX7_sow 41 = .ok (.iadd, 1) := by decide +kernel
theorem dX7_sow_42 : decode cX7_sow 42 = .ok (.bipush 99, 2) := by decide +kernel
theorem dX7_sow_44 : decode cX7_sow 44 = .ok (.if_icmp .le 12, 3) := by decide +kernel
theorem dX7_sow_47 : decode cX7_sow 47 = .ok (.aload_n 0, 1) := by decide +kernel
theorem dX7_sow_48 : decode cX7_sow 48 = .ok (.iconst 2, 1) := by decide +kernel
theorem dX7_sow_49 : decode cX7_sow 49 = .ok (.iconst 1, 1) := by decide +kernel
theorem dX7_sow_50 : decode cX7_sow 50 = .ok (.bipush 99, 2) := by decide +kernel
theorem dX7_sow_52 : decode cX7_sow 52 = .ok (.invokevirtual 79, 3) := by decide +kernel
theorem dX7_sow_55 : decode cX7_sow 55 = .ok (.ireturn, 1) := by decide +kernel
theorem dX7_sow_56 : decode cX7_sow 56 = .ok (.aload_n 0, 1) := by decide +kernel
theorem dX7_sow_57 : decode cX7_sow 57 = .ok (.aload_n 0, 1) := by decide +kernel
theorem dX7_sow_58 : decode cX7_sow 58 = .ok (.getfield 7, 3) := by decide +kernel
theorem dX7_sow_61 : decode cX7_sow 61 = .ok (.invokevirtual 87, 3) := by decide +kernel
theorem dX7_sow_64 : decode cX7_sow 64 = .ok (.aload_n 0, 1) := by decide +kernel
theorem dX7_sow_65 : decode cX7_sow 65 = .ok (.getfield 7, 3) := by decide +kernel
theorem dX7_sow_68 : decode cX7_sow 68 = .ok (.bipush 16, 2) := by decide +kernel
theorem dX7_sow_70 : decode cX7_sow 70 = .ok (.iload_n 1, 1) := by decide +kernel
theorem dX7_sow_71 : decode cX7_sow 71 = .ok (.iadd, 1) := by decide +kernel
theorem dX7_sow_72 : decode cX7_sow 72 = .ok (.dup2, 1) := by decide +kernel
theorem dX7_sow_73 : decode cX7_sow 73 = .ok (.iaload, 1) := by decide +kernel
theorem dX7_sow_74 : decode cX7_sow 74 = .ok (.iload_n 2, 1) := by decide +kernel
theorem dX7_sow_75 : decode cX7_sow 75 = .ok (.iadd, 1) := by decide +kernel
theorem dX7_sow_76 : decode cX7_sow 76 = .ok (.iastore, 1) := by decide +kernel
theorem dX7_sow_77 : decode cX7_sow 77 = .ok (.aload_n 0, 1) := by decide +kernel
theorem dX7_sow_78 : decode cX7_sow 78 = .ok (.getfield 7, 3) := by decide +kernel
theorem dX7_sow_81 : decode cX7_sow 81 = .ok (.iconst 4, 1) := by decide +kernel
theorem dX7_sow_82 : decode cX7_sow 82 = .ok (.dup2, 1) := by decide +kernel
theorem dX7_sow_83 : decode cX7_sow 83 = .ok (.iaload, 1) := by decide +kernel
theorem dX7_sow_84 : decode cX7_sow 84 = .ok (.iload_n 2, 1) := by decide +kernel
theorem dX7_sow_85 : decode cX7_sow 85 = .ok (.iadd, 1) := by decide +kernel
theorem dX7_sow_86 : decode cX7_sow 86 = .ok (.iastore, 1) := by decide +kernel
theorem dX7_sow_87 : decode cX7_sow 87 = .ok (.aload_n 0, 1) := by decide +kernel
theorem dX7_sow_88 : decode cX7_sow 88 = .ok (.getfield 7, 3) := by decide +kernel
theorem dX7_sow_91 : decode cX7_sow 91 = .ok (.bipush 16, 2) := by decide +kernel
theorem dX7_sow_93 : decode cX7_sow 93 = .ok (.iload_n 1, 1) := by decide +kernel
theorem dX7_sow_94 : decode cX7_sow 94 = .ok (.iadd, 1) := by decide +kernel
theorem dX7_sow_95 : decode cX7_sow 95 = .ok (.iaload, 1) := by decide +kernel
theorem dX7_sow_96 : decode cX7_sow 96 = .ok (.ireturn, 1) := by decide +kernel
theorem dX7_apart_0 : decode cX7_apart 0 = .ok (.iload_n 0, 1) := by decide +kernel
theorem dX7_apart_1 : decode cX7_apart 1 = .ok (.iload_n 1, 1) := by decide +kernel
theorem dX7_apart_2 : decode cX7_apart 2 = .ok (.if_icmp .le 9, 3) := by decide +kernel
theorem dX7_apart_5 : decode cX7_apart 5 = .ok (.iload_n 0, 1) := by decide +kernel
theorem dX7_apart_6 : decode cX7_apart 6 = .ok (.iload_n 1, 1) := by decide +kernel
theorem dX7_apart_7 : decode cX7_apart 7 = .ok (.isub, 1) := by decide +kernel
theorem dX7_apart_8 : decode cX7_apart 8 = .ok (.goto 6, 3) := by decide +kernel
theorem dX7_apart_11 : decode cX7_apart 11 = .ok (.iload_n 1, 1) := by decide +kernel
theorem dX7_apart_12 : decode cX7_apart 12 = .ok (.iload_n 0, 1) := by decide +kernel
theorem dX7_apart_13 : decode cX7_apart 13 = .ok (.isub, 1) := by decide +kernel
theorem dX7_apart_14 : decode cX7_apart 14 = .ok (.ireturn, 1) := by decide +kernel
set_option maxRecDepth 20000 in
theorem ggX7_guards_X7_certified : GoodIn wsX7_guards wsX7_certified := goodIn_ca (goodIn_r _ [6, 1, 7, 8, 9, 5, 10, 11, 12, 13, 14, 15, 16, 17, 21, 22, 23, 24, 25, 26, 27, 28, 29, 30, 31, 32, 33, 34, 35, 36, 37, 38, 39, 40, 41] (by decide +kernel) (by decide +kernel)) (goodIn_sub (fun _ h => List.mem_cons_of_mem _ (List.mem_append_right _ h)) (by decide +kernel))
set_option maxRecDepth 20000 in
theorem gX7_guards_X7_certified : GoodIn wsX7_guards (wsV RX7 98 RX7 yX7_certified wsX7_certified) := goodIn_app (goodIn_of _ (by decide +kernel)) ggX7_guards_X7_certified
set_option maxRecDepth 20000 in
theorem ggX7_guards_X7_has : GoodIn wsX7_guards wsX7_has := goodIn_r _ [17] (by decide +kernel) (by decide +kernel)
set_option maxRecDepth 20000 in
theorem gX7_guards_X7_has : GoodIn wsX7_guards (va_wsS RX7 94 yX7_has wsX7_has) := goodIn_app (goodIn_of _ (by decide +kernel)) ggX7_guards_X7_has
set_option maxRecDepth 20000 in
theorem ggX7_guards_X7_apart : GoodIn wsX7_guards wsX7_apart := goodIn_r _ [20] (by decide +kernel) (by decide +kernel)
set_option maxRecDepth 20000 in
theorem gX7_guards_X7_apart : GoodIn wsX7_guards (va_wsS RX7 137 yX7_apart wsX7_apart) := goodIn_app (goodIn_of _ (by decide +kernel)) ggX7_guards_X7_apart
theorem dX7_guards_0 : decode cX7_guards 0 = .ok (.aload_n 0, 1) := by decide +kernel
theorem dX7_guards_1 : decode cX7_guards 1 = .ok (.aload_n 0, 1) := by decide +kernel
theorem dX7_guards_2 : decode cX7_guards 2 = .ok (.getfield 7, 3) := by decide +kernel
theorem dX7_guards_5 : decode cX7_guards 5 = .ok (.iconst 2, 1) := by decide +kernel
theorem dX7_guards_6 : decode cX7_guards 6 = .ok (.iaload, 1) := by decide +kernel
theorem dX7_guards_7 : decode cX7_guards 7 = .ok (.invokevirtual 98, 3) := by decide +kernel
theorem dX7_guards_10 : decode cX7_guards 10 = .ok (.istore_n 1, 1) := by decide +kernel
theorem dX7_guards_11 : decode cX7_guards 11 = .ok (.iconst 0, 1) := by decide +kernel
theorem dX7_guards_12 : decode cX7_guards 12 = .ok (.istore_n 2, 1) := by decide +kernel
theorem dX7_guards_13 : decode cX7_guards 13 = .ok (.iconst 0, 1) := by decide +kernel
theorem dX7_guards_14 : decode cX7_guards 14 = .ok (.istore_n 3, 1) := by decide +kernel
theorem dX7_guards_15 : decode cX7_guards 15 = .ok (.iload_n 3, 1) := by decide +kernel
theorem dX7_guards_16 : decode cX7_guards 16 = .ok (.aload_n 0, 1) := by decide +kernel
theorem dX7_guards_17 : decode cX7_guards 17 = .ok (.getfield 7, 3) := by decide +kernel
theorem dX7_guards_20 : decode cX7_guards 20 = .ok (.iconst 0, 1) := by decide +kernel
theorem dX7_guards_21 : decode cX7_guards 21 = .ok (.iaload, 1) := by decide +kernel
theorem dX7_guards_22 : decode cX7_guards 22 = .ok (.if_icmp .ge 77, 3) := by decide +kernel
theorem dX7_guards_25 : decode cX7_guards 25 = .ok (.iconst 0, 1) := by decide +kernel
theorem dX7_guards_26 : decode cX7_guards 26 = .ok (.istore 4, 2) := by decide +kernel
theorem dX7_guards_28 : decode cX7_guards 28 = .ok (.iload 4, 2) := by decide +kernel
theorem dX7_guards_30 : decode cX7_guards 30 = .ok (.bipush 16, 2) := by decide +kernel
theorem dX7_guards_32 : decode cX7_guards 32 = .ok (.if_icmp .ge 61, 3) := by decide +kernel
theorem dX7_guards_35 : decode cX7_guards 35 = .ok (.iload_n 1, 1) := by decide +kernel
theorem dX7_guards_36 : decode cX7_guards 36 = .ok (.iload_n 3, 1) := by decide +kernel
theorem dX7_guards_37 : decode cX7_guards 37 = .ok (.invokestatic 94, 3) := by decide +kernel
theorem dX7_guards_40 : decode cX7_guards 40 = .ok (.ifCond .eq 53, 3) := by decide +kernel
theorem dX7_guards_43 : decode cX7_guards 43 = .ok (.aload_n 0, 1) := by decide +kernel
theorem dX7_guards_44 : decode cX7_guards 44 = .ok (.getfield 7, 3) := by decide +kernel
theorem dX7_guards_47 : decode cX7_guards 47 = .ok (.iconst 5, 1) := by decide +kernel
theorem dX7_guards_48 : decode cX7_guards 48 = .ok (.iload_n 3, 1) := by decide +kernel
theorem dX7_guards_49 : decode cX7_guards 49 = .ok (.iadd, 1) := by decide +kernel
theorem dX7_guards_50 : decode cX7_guards 50 = .ok (.iaload, 1) := by decide +kernel
theorem dX7_guards_51 : decode cX7_guards 51 = .ok (.istore 5, 2) := by decide +kernel
theorem dX7_guards_53 : decode cX7_guards 53 = .ok (.iload 5, 2) := by decide +kernel
theorem dX7_guards_55 : decode cX7_guards 55 = .ok (.iconst 4, 1) := by decide +kernel
theorem dX7_guards_56 : decode cX7_guards 56 = .ok (.idiv, 1) := by decide +kernel
theorem dX7_guards_57 : decode cX7_guards 57 = .ok (.iload 4, 2) := by decide +kernel
theorem dX7_guards_59 : decode cX7_guards 59 = .ok (.iconst 4, 1) := by decide +kernel
theorem dX7_guards_60 : decode cX7_guards 60 = .ok (.idiv, 1) := by decide +kernel
theorem dX7_guards_61 : decode cX7_guards 61 = .ok (.invokestatic 137, 3) := by decide +kernel
theorem dX7_guards_64 : decode cX7_guards 64 = .ok (.iload 5, 2) := by decide +kernel
theorem dX7_guards_66 : decode cX7_guards 66 = .ok (.iconst 4, 1) := by decide +kernel
theorem dX7_guards_67 : decode cX7_guards 67 = .ok (.irem, 1) := by decide +kernel
theorem dX7_guards_68 : decode cX7_guards 68 = .ok (.iload 4, 2) := by decide +kernel
theorem dX7_guards_70 : decode cX7_guards 70 = .ok (.iconst 4, 1) := by decide +kernel
theorem dX7_guards_71 : decode cX7_guards 71 = .ok (.irem, 1) := by decide +kernel
theorem dX7_guards_72 : decode cX7_guards 72 = .ok (.invokestatic 137, 3) := by decide +kernel
theorem dX7_guards_75 : decode cX7_guards 75 = .ok (.iadd, 1) := by decide +kernel
theorem dX7_guards_76 : decode cX7_guards 76 = .ok (.iconst 2, 1) := by decide +kernel
theorem dX7_guards_77 : decode cX7_guards 77 = .ok (.if_icmp .ge 10, 3) := by decide +kernel
theorem dX7_guards_80 : decode cX7_guards 80 = .ok (.iload_n 2, 1) := by decide +kernel
theorem dX7_guards_81 : decode cX7_guards 81 = .ok (.iconst 1, 1) := by decide +kernel
theorem dX7_guards_82 : decode cX7_guards 82 = .ok (.iload 4, 2) := by decide +kernel
theorem dX7_guards_84 : decode cX7_guards 84 = .ok (.ishl, 1) := by decide +kernel
theorem dX7_guards_85 : decode cX7_guards 85 = .ok (.ior, 1) := by decide +kernel
theorem dX7_guards_86 : decode cX7_guards 86 = .ok (.istore_n 2, 1) := by decide +kernel
theorem dX7_guards_87 : decode cX7_guards 87 = .ok (.iinc 4 1, 3) := by decide +kernel
theorem dX7_guards_90 : decode cX7_guards 90 = .ok (.goto (-62), 3) := by decide +kernel
theorem dX7_guards_93 : decode cX7_guards 93 = .ok (.iinc 3 1, 3) := by decide +kernel
theorem dX7_guards_96 : decode cX7_guards 96 = .ok (.goto (-81), 3) := by decide +kernel
theorem dX7_guards_99 : decode cX7_guards 99 = .ok (.iload_n 2, 1) := by decide +kernel
theorem dX7_guards_100 : decode cX7_guards 100 = .ok (.ireturn, 1) := by decide +kernel
set_option maxRecDepth 20000 in
theorem ggX7_goes_X7_of : GoodIn wsX7_goes wsX7_of := goodIn_ca (goodIn_r _ [6, 1, 29, 30, 31, 32, 33, 34, 35, 36, 37, 38, 39, 40, 41, 42, 43, 44, 45, 46, 47, 48, 49] (by decide +kernel) (by decide +kernel)) (goodIn_sub (fun _ h => List.mem_cons_of_mem _ (List.mem_append_right _ h)) (by decide +kernel))
set_option maxRecDepth 20000 in
theorem gX7_goes_X7_of : GoodIn wsX7_goes (wsV RX7 107 RX7 yX7_of wsX7_of) := goodIn_app (goodIn_of _ (by decide +kernel)) ggX7_goes_X7_of
set_option maxRecDepth 20000 in
theorem ggX7_goes_X7_drops : GoodIn wsX7_goes wsX7_drops := goodIn_ca (goodIn_r _ [10, 1, 29, 30, 31, 32, 33, 34, 35, 36, 37, 38, 39, 40, 41, 42, 43, 44, 45, 46, 47, 48, 49] (by decide +kernel) (by decide +kernel)) (goodIn_sub (fun _ h => List.mem_cons_of_mem _ (List.mem_append_right _ h)) (by decide +kernel))
set_option maxRecDepth 20000 in
theorem gX7_goes_X7_drops : GoodIn wsX7_goes (wsV RX7 129 RX7 yX7_drops wsX7_drops) := goodIn_app (goodIn_of _ (by decide +kernel)) ggX7_goes_X7_drops
set_option maxRecDepth 20000 in
theorem ggX7_goes_X7_guards : GoodIn wsX7_goes wsX7_guards := goodIn_ca (goodIn_r _ [14, 1, 15, 16, 17, 5, 18, 19, 20, 21, 22, 2, 3, 4, 6, 23, 24, 25, 26, 27, 28, 29, 30, 31, 32, 33, 34, 35, 36, 37, 38, 39, 40, 41, 42, 43, 44, 45, 46, 47, 48, 49] (by decide +kernel) (by decide +kernel)) (goodIn_sub (fun _ h => List.mem_cons_of_mem _ (List.mem_append_right _ h)) (by decide +kernel))
set_option maxRecDepth 20000 in
theorem gX7_goes_X7_guards : GoodIn wsX7_goes (wsV RX7 140 RX7 yX7_guards wsX7_guards) := goodIn_app (goodIn_of _ (by decide +kernel)) ggX7_goes_X7_guards
set_option maxRecDepth 20000 in
theorem ggX7_goes_X7_has : GoodIn wsX7_goes wsX7_has := goodIn_r _ [25] (by decide +kernel) (by decide +kernel)
set_option maxRecDepth 20000 in
theorem gX7_goes_X7_has : GoodIn wsX7_goes (va_wsS RX7 94 yX7_has wsX7_has) := goodIn_app (goodIn_of _ (by decide +kernel)) ggX7_goes_X7_has
theorem dX7_goes_0 : decode cX7_goes 0 = .ok (.aload_n 0, 1) := by decide +kernel
theorem dX7_goes_1 : decode cX7_goes 1 = .ok (.getfield 7, 3) := by decide +kernel
theorem dX7_goes_4 : decode cX7_goes 4 = .ok (.iconst 2, 1) := by decide +kernel
theorem dX7_goes_5 : decode cX7_goes 5 = .ok (.dup2, 1) := by decide +kernel
theorem dX7_goes_6 : decode cX7_goes 6 = .ok (.iaload, 1) := by decide +kernel
theorem dX7_goes_7 : decode cX7_goes 7 = .ok (.iconst 1, 1) := by decide +kernel
theorem dX7_goes_8 : decode cX7_goes 8 = .ok (.iadd, 1) := by decide +kernel
theorem dX7_goes_9 : decode cX7_goes 9 = .ok (.iastore, 1) := by decide +kernel
theorem dX7_goes_10 : decode cX7_goes 10 = .ok (.aload_n 0, 1) := by decide +kernel
theorem dX7_goes_11 : decode cX7_goes 11 = .ok (.getfield 7, 3) := by decide +kernel
theorem dX7_goes_14 : decode cX7_goes 14 = .ok (.iconst 1, 1) := by decide +kernel
theorem dX7_goes_15 : decode cX7_goes 15 = .ok (.iaload, 1) := by decide +kernel
theorem dX7_goes_16 : decode cX7_goes 16 = .ok (.iconst 1, 1) := by decide +kernel
theorem dX7_goes_17 : decode cX7_goes 17 = .ok (.isub, 1) := by decide +kernel
theorem dX7_goes_18 : decode cX7_goes 18 = .ok (.istore_n 1, 1) := by decide +kernel
theorem dX7_goes_19 : decode cX7_goes 19 = .ok (.iload_n 1, 1) := by decide +kernel
theorem dX7_goes_20 : decode cX7_goes 20 = .ok (.ifCond .lt 29, 3) := by decide +kernel
theorem dX7_goes_23 : decode cX7_goes 23 = .ok (.aload_n 0, 1) := by decide +kernel
theorem dX7_goes_24 : decode cX7_goes 24 = .ok (.iload_n 1, 1) := by decide +kernel
theorem dX7_goes_25 : decode cX7_goes 25 = .ok (.iconst 3, 1) := by decide +kernel
theorem dX7_goes_26 : decode cX7_goes 26 = .ok (.invokevirtual 107, 3) := by decide +kernel
theorem dX7_goes_29 : decode cX7_goes 29 = .ok (.aload_n 0, 1) := by decide +kernel
theorem dX7_goes_30 : decode cX7_goes 30 = .ok (.getfield 7, 3) := by decide +kernel
theorem dX7_goes_33 : decode cX7_goes 33 = .ok (.iconst 2, 1) := by decide +kernel
theorem dX7_goes_34 : decode cX7_goes 34 = .ok (.iaload, 1) := by decide +kernel
theorem dX7_goes_35 : decode cX7_goes 35 = .ok (.if_icmp .ge 8, 3) := by decide +kernel
theorem dX7_goes_38 : decode cX7_goes 38 = .ok (.aload_n 0, 1) := by decide +kernel
theorem dX7_goes_39 : decode cX7_goes 39 = .ok (.iload_n 1, 1) := by decide +kernel
theorem dX7_goes_40 : decode cX7_goes 40 = .ok (.invokevirtual 129, 3) := by decide +kernel
theorem dX7_goes_43 : decode cX7_goes 43 = .ok (.iinc 1 (-1), 3) := by decide +kernel
theorem dX7_goes_46 : decode cX7_goes 46 = .ok (.goto (-27), 3) := by decide +kernel
theorem dX7_goes_49 : decode cX7_goes 49 = .ok (.bipush 7, 2) := by decide +kernel
theorem dX7_goes_51 : decode cX7_goes 51 = .ok (.aload_n 0, 1) := by decide +kernel
theorem dX7_goes_52 : decode cX7_goes 52 = .ok (.getfield 7, 3) := by decide +kernel
theorem dX7_goes_55 : decode cX7_goes 55 = .ok (.iconst 2, 1) := by decide +kernel
theorem dX7_goes_56 : decode cX7_goes 56 = .ok (.iaload, 1) := by decide +kernel
theorem dX7_goes_57 : decode cX7_goes 57 = .ok (.imul, 1) := by decide +kernel
theorem dX7_goes_58 : decode cX7_goes 58 = .ok (.bipush 16, 2) := by decide +kernel
theorem dX7_goes_60 : decode cX7_goes 60 = .ok (.irem, 1) := by decide +kernel
theorem dX7_goes_61 : decode cX7_goes 61 = .ok (.istore_n 1, 1) := by decide +kernel
theorem dX7_goes_62 : decode cX7_goes 62 = .ok (.aload_n 0, 1) := by decide +kernel
theorem dX7_goes_63 : decode cX7_goes 63 = .ok (.getfield 7, 3) := by decide +kernel
theorem dX7_goes_66 : decode cX7_goes 66 = .ok (.bipush 16, 2) := by decide +kernel
theorem dX7_goes_68 : decode cX7_goes 68 = .ok (.iload_n 1, 1) := by decide +kernel
theorem dX7_goes_69 : decode cX7_goes 69 = .ok (.iadd, 1) := by decide +kernel
theorem dX7_goes_70 : decode cX7_goes 70 = .ok (.iaload, 1) := by decide +kernel
theorem dX7_goes_71 : decode cX7_goes 71 = .ok (.ifCond .eq 14, 3) := by decide +kernel
theorem dX7_goes_74 : decode cX7_goes 74 = .ok (.aload_n 0, 1) := by decide +kernel
theorem dX7_goes_75 : decode cX7_goes 75 = .ok (.invokevirtual 140, 3) := by decide +kernel
theorem dX7_goes_78 : decode cX7_goes 78 = .ok (.iload_n 1, 1) := by decide +kernel
theorem dX7_goes_79 : decode cX7_goes 79 = .ok (.invokestatic 94, 3) := by decide +kernel
theorem dX7_goes_82 : decode cX7_goes 82 = .ok (.ifCond .eq 5, 3) := by decide +kernel
theorem dX7_goes_85 : decode cX7_goes 85 = .ok (.iconst 0, 1) := by decide +kernel
theorem dX7_goes_86 : decode cX7_goes 86 = .ok (.ireturn, 1) := by decide +kernel
theorem dX7_goes_87 : decode cX7_goes 87 = .ok (.aload_n 0, 1) := by decide +kernel
theorem dX7_goes_88 : decode cX7_goes 88 = .ok (.getfield 7, 3) := by decide +kernel
theorem dX7_goes_91 : decode cX7_goes 91 = .ok (.bipush 16, 2) := by decide +kernel
theorem dX7_goes_93 : decode cX7_goes 93 = .ok (.iload_n 1, 1) := by decide +kernel
theorem dX7_goes_94 : decode cX7_goes 94 = .ok (.iadd, 1) := by decide +kernel
theorem dX7_goes_95 : decode cX7_goes 95 = .ok (.dup2, 1) := by decide +kernel
theorem dX7_goes_96 : decode cX7_goes 96 = .ok (.iaload, 1) := by decide +kernel
theorem dX7_goes_97 : decode cX7_goes 97 = .ok (.iconst 1, 1) := by decide +kernel
theorem dX7_goes_98 : decode cX7_goes 98 = .ok (.isub, 1) := by decide +kernel
theorem dX7_goes_99 : decode cX7_goes 99 = .ok (.iastore, 1) := by decide +kernel
theorem dX7_goes_100 : decode cX7_goes 100 = .ok (.aload_n 0, 1) := by decide +kernel
theorem dX7_goes_101 : decode cX7_goes 101 = .ok (.getfield 7, 3) := by decide +kernel
theorem dX7_goes_104 : decode cX7_goes 104 = .ok (.iconst 3, 1) := by decide +kernel
theorem dX7_goes_105 : decode cX7_goes 105 = .ok (.dup2, 1) := by decide +kernel
theorem dX7_goes_106 : decode cX7_goes 106 = .ok (.iaload, 1) := by decide +kernel
theorem dX7_goes_107 : decode cX7_goes 107 = .ok (.iconst 1, 1) := by decide +kernel
theorem dX7_goes_108 : decode cX7_goes 108 = .ok (.iadd, 1) := by decide +kernel
theorem dX7_goes_109 : decode cX7_goes 109 = .ok (.iastore, 1) := by decide +kernel
theorem dX7_goes_110 : decode cX7_goes 110 = .ok (.iconst 1, 1) := by decide +kernel
theorem dX7_goes_111 : decode cX7_goes 111 = .ok (.ireturn, 1) := by decide +kernel
set_option maxRecDepth 20000 in
theorem ggX7_goesOn_X7_goes : GoodIn wsX7_goesOn wsX7_goes := goodIn_ca (goodIn_r _ [5, 6, 7, 8, 9, 4, 10, 11, 12, 13, 14, 15, 16, 17, 18, 19, 20, 21, 22, 23, 24, 25, 26, 27, 28, 29, 30, 31, 32, 33, 34, 35, 36, 37, 38, 39, 40, 41, 42, 43, 44, 45, 46, 47, 48, 49, 50, 51, 52, 53] (by decide +kernel) (by decide +kernel)) (goodIn_sub (fun _ h => List.mem_cons_of_mem _ (List.mem_append_right _ h)) (by decide +kernel))
set_option maxRecDepth 20000 in
theorem gX7_goesOn_X7_goes : GoodIn wsX7_goesOn (wsV RX7 143 RX7 yX7_goes wsX7_goes) := goodIn_app (goodIn_of _ (by decide +kernel)) ggX7_goesOn_X7_goes
theorem dX7_goesOn_0 : decode cX7_goesOn 0 = .ok (.iconst 0, 1) := by decide +kernel
theorem dX7_goesOn_1 : decode cX7_goesOn 1 = .ok (.istore_n 2, 1) := by decide +kernel
theorem dX7_goesOn_2 : decode cX7_goesOn 2 = .ok (.iconst 0, 1) := by decide +kernel
theorem dX7_goesOn_3 : decode cX7_goesOn 3 = .ok (.istore_n 3, 1) := by decide +kernel
theorem dX7_goesOn_4 : decode cX7_goesOn 4 = .ok (.iload_n 3, 1) := by decide +kernel
theorem dX7_goesOn_5 : decode cX7_goesOn 5 = .ok (.iload_n 1, 1) := by decide +kernel
theorem dX7_goesOn_6 : decode cX7_goesOn 6 = .ok (.if_icmp .ge 16, 3) := by decide +kernel
theorem dX7_goesOn_9 : decode cX7_goesOn 9 = .ok (.iload_n 2, 1) := by decide +kernel
theorem dX7_goesOn_10 : decode cX7_goesOn 10 = .ok (.aload_n 0, 1) := by decide +kernel
theorem dX7_goesOn_11 : decode cX7_goesOn 11 = .ok (.invokevirtual 143, 3) := by decide +kernel
theorem dX7_goesOn_14 : decode cX7_goesOn 14 = .ok (.iadd, 1) := by decide +kernel
theorem dX7_goesOn_15 : decode cX7_goesOn 15 = .ok (.istore_n 2, 1) := by decide +kernel
theorem dX7_goesOn_16 : decode cX7_goesOn 16 = .ok (.iinc 3 1, 3) := by decide +kernel
theorem dX7_goesOn_19 : decode cX7_goesOn 19 = .ok (.goto (-15), 3) := by decide +kernel
theorem dX7_goesOn_22 : decode cX7_goesOn 22 = .ok (.iload_n 2, 1) := by decide +kernel
theorem dX7_goesOn_23 : decode cX7_goesOn 23 = .ok (.ireturn, 1) := by decide +kernel
set_option maxRecDepth 20000 in
theorem ggX7_pass_X7_in : GoodIn wsX7_pass wsX7_in := goodIn_r _ [5] (by decide +kernel) (by decide +kernel)
set_option maxRecDepth 20000 in
theorem gX7_pass_X7_in : GoodIn wsX7_pass (va_wsS RX7 65 yX7_in wsX7_in) := goodIn_app (goodIn_of _ (by decide +kernel)) ggX7_pass_X7_in
set_option maxRecDepth 20000 in
theorem ggX7_pass_X7_fails : GoodIn wsX7_pass wsX7_fails := goodIn_r _ [9, 10, 11, 56, 57, 58, 59, 60, 61, 62, 63, 64, 65, 66, 67, 68, 69, 70, 71, 72, 73, 74, 75, 76] (by decide +kernel) (by decide +kernel)
set_option maxRecDepth 20000 in
theorem gX7_pass_X7_fails : GoodIn wsX7_pass (wsV RX7 73 RX7 yX7_fails wsX7_fails) := goodIn_app (goodIn_of _ (by decide +kernel)) ggX7_pass_X7_fails
set_option maxRecDepth 20000 in
theorem ggX7_pass_X7_keeps : GoodIn wsX7_pass wsX7_keeps := goodIn_ca (goodIn_r _ [15, 10, 16, 17, 18, 19, 20, 4, 21, 56, 57, 58, 59, 60, 61, 62, 63, 64, 65, 66, 67, 68, 69, 70, 71, 72, 73, 74, 75, 76] (by decide +kernel) (by decide +kernel)) (goodIn_sub (fun _ h => List.mem_cons_of_mem _ (List.mem_append_right _ h)) (by decide +kernel))
set_option maxRecDepth 20000 in
theorem gX7_pass_X7_keeps : GoodIn wsX7_pass (wsV RX7 87 RX7 yX7_keeps wsX7_keeps) := goodIn_app (goodIn_of _ (by decide +kernel)) ggX7_pass_X7_keeps
set_option maxRecDepth 20000 in
theorem ggX7_pass_X7_goesOn : GoodIn wsX7_pass wsX7_goesOn := goodIn_ca (goodIn_r _ [25, 26, 27, 28, 4, 29, 1, 30, 31, 32, 33, 34, 35, 36, 37, 38, 39, 40, 41, 42, 43, 44, 45, 46, 47, 48, 49, 50, 51, 52, 53, 54, 55, 56, 57, 58, 59, 60, 61, 62, 63, 64, 65, 66, 67, 68, 69, 70, 71, 72, 73, 74, 75, 76] (by decide +kernel) (by decide +kernel)) (goodIn_sub (fun _ h => List.mem_cons_of_mem _ (List.mem_append_right _ h)) (by decide +kernel))
set_option maxRecDepth 20000 in
theorem gX7_pass_X7_goesOn : GoodIn wsX7_pass (wsV RX7 146 RX7 yX7_goesOn wsX7_goesOn) := goodIn_app (goodIn_of _ (by decide +kernel)) ggX7_pass_X7_goesOn
theorem dX7_pass_0 : decode cX7_pass 0 = .ok (.aload_n 0, 1) := by decide +kernel
theorem dX7_pass_1 : decode cX7_pass 1 = .ok (.iload_n 1, 1) := by decide +kernel
theorem dX7_pass_2 : decode cX7_pass 2 = .ok (.iconst 1, 1) := by decide +kernel
theorem dX7_pass_3 : decode cX7_pass 3 = .ok (.bipush 60, 2) := by decide +kernel
theorem dX7_pass_5 : decode cX7_pass 5 = .ok (.invokestatic 65, 3) := by decide +kernel
theorem dX7_pass_8 : decode cX7_pass 8 = .ok (.ifCond .eq 7, 3) := by decide +kernel
theorem dX7_pass_11 : decode cX7_pass 11 = .ok (.iconst 0, 1) := by decide +kernel
theorem dX7_pass_12 : decode cX7_pass 12 = .ok (.goto 4, 3) := by decide +kernel
theorem dX7_pass_15 : decode cX7_pass 15 = .ok (.iconst 1, 1) := by decide +kernel
theorem dX7_pass_16 : decode cX7_pass 16 = .ok (.invokevirtual 73, 3) := by decide +kernel
theorem dX7_pass_19 : decode cX7_pass 19 = .ok (.ifCond .eq 5, 3) := by decide +kernel
theorem dX7_pass_22 : decode cX7_pass 22 = .ok (.iconst 0, 1) := by decide +kernel
theorem dX7_pass_23 : decode cX7_pass 23 = .ok (.ireturn, 1) := by decide +kernel
theorem dX7_pass_24 : decode cX7_pass 24 = .ok (.aload_n 0, 1) := by decide +kernel
theorem dX7_pass_25 : decode cX7_pass 25 = .ok (.aload_n 0, 1) := by decide +kernel
theorem dX7_pass_26 : decode cX7_pass 26 = .ok (.getfield 7, 3) := by decide +kernel
theorem dX7_pass_29 : decode cX7_pass 29 = .ok (.invokevirtual 87, 3) := by decide +kernel
theorem dX7_pass_32 : decode cX7_pass 32 = .ok (.aload_n 0, 1) := by decide +kernel
theorem dX7_pass_33 : decode cX7_pass 33 = .ok (.iload_n 1, 1) := by decide +kernel
theorem dX7_pass_34 : decode cX7_pass 34 = .ok (.invokevirtual 146, 3) := by decide +kernel
theorem dX7_pass_37 : decode cX7_pass 37 = .ok (.ireturn, 1) := by decide +kernel
set_option maxRecDepth 20000 in
theorem ggX7_predictEaten_X7_in : GoodIn wsX7_predictEaten wsX7_in := goodIn_r _ [6] (by decide +kernel) (by decide +kernel)
set_option maxRecDepth 20000 in
theorem gX7_predictEaten_X7_in : GoodIn wsX7_predictEaten (va_wsS RX7 65 yX7_in wsX7_in) := goodIn_app (goodIn_of _ (by decide +kernel)) ggX7_predictEaten_X7_in
set_option maxRecDepth 20000 in
theorem ggX7_predictEaten_X7_fails : GoodIn wsX7_predictEaten wsX7_fails := goodIn_r _ [10, 11, 12, 50, 51, 52, 53, 54, 55, 56, 57, 58, 59, 60, 61, 62, 63, 64, 65, 66, 67, 68, 69, 70] (by decide +kernel) (by decide +kernel)
set_option maxRecDepth 20000 in
theorem gX7_predictEaten_X7_fails : GoodIn wsX7_predictEaten (wsV RX7 73 RX7 yX7_fails wsX7_fails) := goodIn_app (goodIn_of _ (by decide +kernel)) ggX7_predictEaten_X7_fails
set_option maxRecDepth 20000 in
theorem ggX7_predictEaten_X7_copies : GoodIn wsX7_predictEaten wsX7_copies := goodIn_ca (goodIn_r _ [15] (by decide +kernel) (by decide +kernel)) (goodIn_sub (fun _ h => List.mem_cons_of_mem _ (List.mem_append_right _ h)) (by decide +kernel))
set_option maxRecDepth 20000 in
theorem gX7_predictEaten_X7_copies : GoodIn wsX7_predictEaten (va_wsS RX7 61 yX7_copies wsX7_copies) := goodIn_app (goodIn_of _ (by decide +kernel)) ggX7_predictEaten_X7_copies
set_option maxRecDepth 20000 in
theorem ggX7_predictEaten_X7_goesOn : GoodIn wsX7_predictEaten wsX7_goesOn := goodIn_ca (goodIn_r _ [19, 20, 21, 22, 5, 23, 1, 24, 25, 26, 27, 28, 29, 30, 31, 32, 33, 34, 35, 36, 37, 38, 39, 40, 41, 42, 43, 44, 45, 46, 47, 48, 49, 50, 51, 52, 53, 54, 55, 56, 57, 58, 59, 60, 61, 62, 63, 64, 65, 66, 67, 68, 69, 70] (by decide +kernel) (by decide +kernel)) (goodIn_sub (fun _ h => List.mem_cons_of_mem _ (List.mem_append_right _ h)) (by decide +kernel))
set_option maxRecDepth 20000 in
theorem gX7_predictEaten_X7_goesOn : GoodIn wsX7_predictEaten (wsV RX7 146 RX7 yX7_goesOn wsX7_goesOn) := goodIn_app (goodIn_of _ (by decide +kernel)) ggX7_predictEaten_X7_goesOn
theorem dX7_predictEaten_0 : decode cX7_predictEaten 0 = .ok (.aload_n 0, 1) := by decide +kernel
theorem dX7_predictEaten_1 : decode cX7_predictEaten 1 = .ok (.iload_n 1, 1) := by decide +kernel
theorem dX7_predictEaten_2 : decode cX7_predictEaten 2 = .ok (.iconst 0, 1) := by decide +kernel
theorem dX7_predictEaten_3 : decode cX7_predictEaten 3 = .ok (.bipush 60, 2) := by decide +kernel
theorem dX7_predictEaten_5 : decode cX7_predictEaten 5 = .ok (.invokestatic 65, 3) := by decide +kernel
theorem dX7_predictEaten_8 : decode cX7_predictEaten 8 = .ok (.ifCond .eq 7, 3) := by decide +kernel
theorem dX7_predictEaten_11 : decode cX7_predictEaten 11 = .ok (.iconst 0, 1) := by decide +kernel
theorem dX7_predictEaten_12 : decode cX7_predictEaten 12 = .ok (.goto 4, 3) := by decide +kernel
theorem dX7_predictEaten_15 : decode cX7_predictEaten 15 = .ok (.iconst 1, 1) := by decide +kernel
theorem dX7_predictEaten_16 : decode cX7_predictEaten 16 = .ok (.invokevirtual 73, 3) := by decide +kernel
theorem dX7_predictEaten_19 : decode cX7_predictEaten 19 = .ok (.ifCond .eq 5, 3) := by decide +kernel
theorem dX7_predictEaten_22 : decode cX7_predictEaten 22 = .ok (.iconst 0, 1) := by decide +kernel
theorem dX7_predictEaten_23 : decode cX7_predictEaten 23 = .ok (.ireturn, 1) := by decide +kernel
theorem dX7_predictEaten_24 : decode cX7_predictEaten 24 = .ok (.aload_n 0, 1) := by decide +kernel
theorem dX7_predictEaten_25 : decode cX7_predictEaten 25 = .ok (.getfield 7, 3) := by decide +kernel
theorem dX7_predictEaten_28 : decode cX7_predictEaten 28 = .ok (.iconst 0, 1) := by decide +kernel
theorem dX7_predictEaten_29 : decode cX7_predictEaten 29 = .ok (.aload_n 0, 1) := by decide +kernel
theorem dX7_predictEaten_30 : decode cX7_predictEaten 30 = .ok (.getfield 22, 3) := by decide +kernel
theorem dX7_predictEaten_33 : decode cX7_predictEaten 33 = .ok (.iconst 0, 1) := by decide +kernel
theorem dX7_predictEaten_34 : decode cX7_predictEaten 34 = .ok (.invokestatic 61, 3) := by decide +kernel
theorem dX7_predictEaten_37 : decode cX7_predictEaten 37 = .ok (.aload_n 0, 1) := by decide +kernel
theorem dX7_predictEaten_38 : decode cX7_predictEaten 38 = .ok (.iload_n 1, 1) := by decide +kernel
theorem dX7_predictEaten_39 : decode cX7_predictEaten 39 = .ok (.invokevirtual 146, 3) := by decide +kernel
theorem dX7_predictEaten_42 : decode cX7_predictEaten 42 = .ok (.istore_n 2, 1) := by decide +kernel
theorem dX7_predictEaten_43 : decode cX7_predictEaten 43 = .ok (.aload_n 0, 1) := by decide +kernel
theorem dX7_predictEaten_44 : decode cX7_predictEaten 44 = .ok (.getfield 22, 3) := by decide +kernel
theorem dX7_predictEaten_47 : decode cX7_predictEaten 47 = .ok (.iconst 0, 1) := by decide +kernel
theorem dX7_predictEaten_48 : decode cX7_predictEaten 48 = .ok (.aload_n 0, 1) := by decide +kernel
theorem dX7_predictEaten_49 : decode cX7_predictEaten 49 = .ok (.getfield 7, 3) := by decide +kernel
theorem dX7_predictEaten_52 : decode cX7_predictEaten 52 = .ok (.iconst 0, 1) := by decide +kernel
theorem dX7_predictEaten_53 : decode cX7_predictEaten 53 = .ok (.invokestatic 61, 3) := by decide +kernel
theorem dX7_predictEaten_56 : decode cX7_predictEaten 56 = .ok (.iload_n 2, 1) := by decide +kernel
theorem dX7_predictEaten_57 : decode cX7_predictEaten 57 = .ok (.ireturn, 1) := by decide +kernel
theorem dX7_day_0 : decode cX7_day 0 = .ok (.aload_n 0, 1) := by decide +kernel
theorem dX7_day_1 : decode cX7_day 1 = .ok (.iconst 0, 1) := by decide +kernel
theorem dX7_day_2 : decode cX7_day 2 = .ok (.putfield 39, 3) := by decide +kernel
theorem dX7_day_5 : decode cX7_day 5 = .ok (.aload_n 0, 1) := by decide +kernel
theorem dX7_day_6 : decode cX7_day 6 = .ok (.getfield 7, 3) := by decide +kernel
theorem dX7_day_9 : decode cX7_day 9 = .ok (.iconst 2, 1) := by decide +kernel
theorem dX7_day_10 : decode cX7_day 10 = .ok (.iaload, 1) := by decide +kernel
theorem dX7_day_11 : decode cX7_day 11 = .ok (.ireturn, 1) := by decide +kernel
theorem dX7_nextLook_0 : decode cX7_nextLook 0 = .ok (.aload_n 0, 1) := by decide +kernel
theorem dX7_nextLook_1 : decode cX7_nextLook 1 = .ok (.iconst 0, 1) := by decide +kernel
theorem dX7_nextLook_2 : decode cX7_nextLook 2 = .ok (.putfield 39, 3) := by decide +kernel
theorem dX7_nextLook_5 : decode cX7_nextLook 5 = .ok (.bipush 7, 2) := by decide +kernel
theorem dX7_nextLook_7 : decode cX7_nextLook 7 = .ok (.aload_n 0, 1) := by decide +kernel
theorem dX7_nextLook_8 : decode cX7_nextLook 8 = .ok (.getfield 7, 3) := by decide +kernel
theorem dX7_nextLook_11 : decode cX7_nextLook 11 = .ok (.iconst 2, 1) := by decide +kernel
theorem dX7_nextLook_12 : decode cX7_nextLook 12 = .ok (.iaload, 1) := by decide +kernel
theorem dX7_nextLook_13 : decode cX7_nextLook 13 = .ok (.iconst 1, 1) := by decide +kernel
theorem dX7_nextLook_14 : decode cX7_nextLook 14 = .ok (.iadd, 1) := by decide +kernel
theorem dX7_nextLook_15 : decode cX7_nextLook 15 = .ok (.imul, 1) := by decide +kernel
theorem dX7_nextLook_16 : decode cX7_nextLook 16 = .ok (.bipush 16, 2) := by decide +kernel
theorem dX7_nextLook_18 : decode cX7_nextLook 18 = .ok (.irem, 1) := by decide +kernel
theorem dX7_nextLook_19 : decode cX7_nextLook 19 = .ok (.ireturn, 1) := by decide +kernel
set_option maxRecDepth 20000 in
theorem ggX7_grains_X7_isField : GoodIn wsX7_grains wsX7_isField := goodIn_r _ [5, 6, 7, 4, 8] (by decide +kernel) (by decide +kernel)
set_option maxRecDepth 20000 in
theorem gX7_grains_X7_isField : GoodIn wsX7_grains (va_wsS RX7 76 yX7_isField wsX7_isField) := goodIn_app (goodIn_of _ (by decide +kernel)) ggX7_grains_X7_isField
set_option maxRecDepth 20000 in
theorem ggX7_grains_X7_fails : GoodIn wsX7_grains wsX7_fails := goodIn_r _ [12, 13, 14, 15, 16, 17, 18, 19, 20, 21, 22, 23, 24, 25, 26, 27, 28, 29, 30, 31, 32, 33, 34, 35] (by decide +kernel) (by decide +kernel)
set_option maxRecDepth 20000 in
theorem gX7_grains_X7_fails : GoodIn wsX7_grains (wsV RX7 73 RX7 yX7_fails wsX7_fails) := goodIn_app (goodIn_of _ (by decide +kernel)) ggX7_grains_X7_fails
theorem dX7_grains_0 : decode cX7_grains 0 = .ok (.aload_n 0, 1) := by decide +kernel
theorem dX7_grains_1 : decode cX7_grains 1 = .ok (.iload_n 1, 1) := by decide +kernel
theorem dX7_grains_2 : decode cX7_grains 2 = .ok (.invokestatic 76, 3) := by decide +kernel
theorem dX7_grains_5 : decode cX7_grains 5 = .ok (.ifCond .eq 7, 3) := by decide +kernel
theorem dX7_grains_8 : decode cX7_grains 8 = .ok (.iconst 0, 1) := by decide +kernel
theorem dX7_grains_9 : decode cX7_grains 9 = .ok (.goto 4, 3) := by decide +kernel
theorem dX7_grains_12 : decode cX7_grains 12 = .ok (.iconst 1, 1) := by decide +kernel
theorem dX7_grains_13 : decode cX7_grains 13 = .ok (.invokevirtual 73, 3) := by decide +kernel
theorem dX7_grains_16 : decode cX7_grains 16 = .ok (.ifCond .eq 7, 3) := by decide +kernel
theorem dX7_grains_19 : decode cX7_grains 19 = .ok (.iconst 0, 1) := by decide +kernel
theorem dX7_grains_20 : decode cX7_grains 20 = .ok (.goto 12, 3) := by decide +kernel
theorem dX7_grains_23 : decode cX7_grains 23 = .ok (.aload_n 0, 1) := by decide +kernel
theorem dX7_grains_24 : decode cX7_grains 24 = .ok (.getfield 7, 3) := by decide +kernel
theorem dX7_grains_27 : decode cX7_grains 27 = .ok (.bipush 16, 2) := by decide +kernel
theorem dX7_grains_29 : decode cX7_grains 29 = .ok (.iload_n 1, 1) := by decide +kernel
theorem dX7_grains_30 : decode cX7_grains 30 = .ok (.iadd, 1) := by decide +kernel
theorem dX7_grains_31 : decode cX7_grains 31 = .ok (.iaload, 1) := by decide +kernel
theorem dX7_grains_32 : decode cX7_grains 32 = .ok (.ireturn, 1) := by decide +kernel
set_option maxRecDepth 20000 in
theorem ggX7_isGuarded_X7_isField : GoodIn wsX7_isGuarded wsX7_isField := goodIn_r _ [4, 5, 6, 3, 7] (by decide +kernel) (by decide +kernel)
set_option maxRecDepth 20000 in
theorem gX7_isGuarded_X7_isField : GoodIn wsX7_isGuarded (va_wsS RX7 76 yX7_isField wsX7_isField) := goodIn_app (goodIn_of _ (by decide +kernel)) ggX7_isGuarded_X7_isField
set_option maxRecDepth 20000 in
theorem ggX7_isGuarded_X7_fails : GoodIn wsX7_isGuarded wsX7_fails := goodIn_r _ [11, 12, 13, 37, 38, 39, 40, 41, 42, 43, 44, 45, 46, 47, 48, 49, 50, 51, 52, 53, 54, 55, 56, 57] (by decide +kernel) (by decide +kernel)
set_option maxRecDepth 20000 in
theorem gX7_isGuarded_X7_fails : GoodIn wsX7_isGuarded (wsV RX7 73 RX7 yX7_fails wsX7_fails) := goodIn_app (goodIn_of _ (by decide +kernel)) ggX7_isGuarded_X7_fails
set_option maxRecDepth 20000 in
theorem ggX7_isGuarded_X7_guards : GoodIn wsX7_isGuarded wsX7_guards := goodIn_ca (goodIn_r _ [17, 18, 19, 20, 21, 3, 22, 23, 24, 25, 26, 27, 28, 29, 30, 31, 32, 33, 34, 35, 36, 37, 38, 39, 40, 41, 42, 43, 44, 45, 46, 47, 48, 49, 50, 51, 52, 53, 54, 55, 56, 57] (by decide +kernel) (by decide +kernel)) (goodIn_sub (fun _ h => List.mem_cons_of_mem _ (List.mem_append_right _ h)) (by decide +kernel))
set_option maxRecDepth 20000 in
theorem gX7_isGuarded_X7_guards : GoodIn wsX7_isGuarded (wsV RX7 140 RX7 yX7_guards wsX7_guards) := goodIn_app (goodIn_of _ (by decide +kernel)) ggX7_isGuarded_X7_guards
set_option maxRecDepth 20000 in
theorem ggX7_isGuarded_X7_has : GoodIn wsX7_isGuarded wsX7_has := goodIn_r _ [33] (by decide +kernel) (by decide +kernel)
set_option maxRecDepth 20000 in
theorem gX7_isGuarded_X7_has : GoodIn wsX7_isGuarded (va_wsS RX7 94 yX7_has wsX7_has) := goodIn_app (goodIn_of _ (by decide +kernel)) ggX7_isGuarded_X7_has
theorem dX7_isGuarded_0 : decode cX7_isGuarded 0 = .ok (.aload_n 0, 1) := by decide +kernel
theorem dX7_isGuarded_1 : decode cX7_isGuarded 1 = .ok (.iload_n 1, 1) := by decide +kernel
theorem dX7_isGuarded_2 : decode cX7_isGuarded 2 = .ok (.invokestatic 76, 3) := by decide +kernel
theorem dX7_isGuarded_5 : decode cX7_isGuarded 5 = .ok (.ifCond .eq 7, 3) := by decide +kernel
theorem dX7_isGuarded_8 : decode cX7_isGuarded 8 = .ok (.iconst 0, 1) := by decide +kernel
theorem dX7_isGuarded_9 : decode cX7_isGuarded 9 = .ok (.goto 4, 3) := by decide +kernel
theorem dX7_isGuarded_12 : decode cX7_isGuarded 12 = .ok (.iconst 1, 1) := by decide +kernel
theorem dX7_isGuarded_13 : decode cX7_isGuarded 13 = .ok (.invokevirtual 73, 3) := by decide +kernel
theorem dX7_isGuarded_16 : decode cX7_isGuarded 16 = .ok (.ifCond .ne 18, 3) := by decide +kernel
theorem dX7_isGuarded_19 : decode cX7_isGuarded 19 = .ok (.aload_n 0, 1) := by decide +kernel
theorem dX7_isGuarded_20 : decode cX7_isGuarded 20 = .ok (.invokevirtual 140, 3) := by decide +kernel
theorem dX7_isGuarded_23 : decode cX7_isGuarded 23 = .ok (.iload_n 1, 1) := by decide +kernel
theorem dX7_isGuarded_24 : decode cX7_isGuarded 24 = .ok (.invokestatic 94, 3) := by decide +kernel
theorem dX7_isGuarded_27 : decode cX7_isGuarded 27 = .ok (.ifCond .eq 7, 3) := by decide +kernel
theorem dX7_isGuarded_30 : decode cX7_isGuarded 30 = .ok (.iconst 1, 1) := by decide +kernel
theorem dX7_isGuarded_31 : decode cX7_isGuarded 31 = .ok (.goto 4, 3) := by decide +kernel
theorem dX7_isGuarded_34 : decode cX7_isGuarded 34 = .ok (.iconst 0, 1) := by decide +kernel
theorem dX7_isGuarded_35 : decode cX7_isGuarded 35 = .ok (.ireturn, 1) := by decide +kernel
set_option maxRecDepth 20000 in
theorem ggX7_guardedFields_X7_guards : GoodIn wsX7_guardedFields wsX7_guards := goodIn_ca (goodIn_r _ [6, 7, 8, 9, 10, 5, 11, 12, 13, 14, 15, 16, 17, 18, 19, 20, 21, 22, 23, 24, 25, 29, 30, 31, 32, 33, 34, 35, 36, 37, 38, 39, 40, 41, 42, 43, 44, 45, 46, 47, 48, 49] (by decide +kernel) (by decide +kernel)) (goodIn_sub (fun _ h => List.mem_cons_of_mem _ (List.mem_append_right _ h)) (by decide +kernel))
set_option maxRecDepth 20000 in
theorem gX7_guardedFields_X7_guards : GoodIn wsX7_guardedFields (wsV RX7 140 RX7 yX7_guards wsX7_guards) := goodIn_app (goodIn_of _ (by decide +kernel)) ggX7_guardedFields_X7_guards
set_option maxRecDepth 20000 in
theorem ggX7_guardedFields_X7_bits : GoodIn wsX7_guardedFields wsX7_bits := goodIn_r _ [28] (by decide +kernel) (by decide +kernel)
set_option maxRecDepth 20000 in
theorem gX7_guardedFields_X7_bits : GoodIn wsX7_guardedFields (va_wsS RX7 101 yX7_bits wsX7_bits) := goodIn_app (goodIn_of _ (by decide +kernel)) ggX7_guardedFields_X7_bits
theorem dX7_guardedFields_0 : decode cX7_guardedFields 0 = .ok (.aload_n 0, 1) := by decide +kernel
theorem dX7_guardedFields_1 : decode cX7_guardedFields 1 = .ok (.iconst 0, 1) := by decide +kernel
theorem dX7_guardedFields_2 : decode cX7_guardedFields 2 = .ok (.putfield 39, 3) := by decide +kernel
theorem dX7_guardedFields_5 : decode cX7_guardedFields 5 = .ok (.aload_n 0, 1) := by decide +kernel
theorem dX7_guardedFields_6 : decode cX7_guardedFields 6 = .ok (.invokevirtual 140, 3) := by decide +kernel
theorem dX7_guardedFields_9 : decode cX7_guardedFields 9 = .ok (.invokestatic 101, 3) := by decide +kernel
theorem dX7_guardedFields_12 : decode cX7_guardedFields 12 = .ok (.ireturn, 1) := by decide +kernel
set_option maxRecDepth 20000 in
theorem ggX7_guardedFieldsByScarecrows_X7_guards : GoodIn wsX7_guardedFieldsByScarecrows wsX7_guards := goodIn_ca (goodIn_r _ [6, 7, 8, 9, 10, 5, 11, 12, 13, 14, 15, 16, 17, 18, 19, 20, 21, 22, 23, 24, 25, 29, 30, 31, 32, 33, 34, 35, 36, 37, 38, 39, 40, 41, 42, 43, 44, 45, 46, 47, 48, 49] (by decide +kernel) (by decide +kernel)) (goodIn_sub (fun _ h => List.mem_cons_of_mem _ (List.mem_append_right _ h)) (by decide +kernel))
set_option maxRecDepth 20000 in
theorem gX7_guardedFieldsByScarecrows_X7_guards : GoodIn wsX7_guardedFieldsByScarecrows (wsV RX7 140 RX7 yX7_guards wsX7_guards) := goodIn_app (goodIn_of _ (by decide +kernel)) ggX7_guardedFieldsByScarecrows_X7_guards
set_option maxRecDepth 20000 in
theorem ggX7_guardedFieldsByScarecrows_X7_bits : GoodIn wsX7_guardedFieldsByScarecrows wsX7_bits := goodIn_r _ [28] (by decide +kernel) (by decide +kernel)
set_option maxRecDepth 20000 in
theorem gX7_guardedFieldsByScarecrows_X7_bits : GoodIn wsX7_guardedFieldsByScarecrows (va_wsS RX7 101 yX7_bits wsX7_bits) := goodIn_app (goodIn_of _ (by decide +kernel)) ggX7_guardedFieldsByScarecrows_X7_bits
theorem dX7_guardedFieldsByScarecrows_0 : decode cX7_guardedFieldsByScarecrows 0 = .ok (.aload_n 0, 1) := by decide +kernel
theorem dX7_guardedFieldsByScarecrows_1 : decode cX7_guardedFieldsByScarecrows 1 = .ok (.iconst 0, 1) := by decide +kernel
theorem dX7_guardedFieldsByScarecrows_2 : decode cX7_guardedFieldsByScarecrows 2 = .ok (.putfield 39, 3) := by decide +kernel
theorem dX7_guardedFieldsByScarecrows_5 : decode cX7_guardedFieldsByScarecrows 5 = .ok (.aload_n 0, 1) := by decide +kernel
theorem dX7_guardedFieldsByScarecrows_6 : decode cX7_guardedFieldsByScarecrows 6 = .ok (.invokevirtual 140, 3) := by decide +kernel
theorem dX7_guardedFieldsByScarecrows_9 : decode cX7_guardedFieldsByScarecrows 9 = .ok (.invokestatic 101, 3) := by decide +kernel
theorem dX7_guardedFieldsByScarecrows_12 : decode cX7_guardedFieldsByScarecrows 12 = .ok (.ireturn, 1) := by decide +kernel
theorem dX7_totalGrains_0 : decode cX7_totalGrains 0 = .ok (.aload_n 0, 1) := by decide +kernel
theorem dX7_totalGrains_1 : decode cX7_totalGrains 1 = .ok (.iconst 0, 1) := by decide +kernel
theorem dX7_totalGrains_2 : decode cX7_totalGrains 2 = .ok (.putfield 39, 3) := by decide +kernel
theorem dX7_totalGrains_5 : decode cX7_totalGrains 5 = .ok (.iconst 0, 1) := by decide +kernel
theorem dX7_totalGrains_6 : decode cX7_totalGrains 6 = .ok (.istore_n 1, 1) := by decide +kernel
theorem dX7_totalGrains_7 : decode cX7_totalGrains 7 = .ok (.iconst 0, 1) := by decide +kernel
theorem dX7_totalGrains_8 : decode cX7_totalGrains 8 = .ok (.istore_n 2, 1) := by decide +kernel
theorem dX7_totalGrains_9 : decode cX7_totalGrains 9 = .ok (.iload_n 2, 1) := by decide +kernel
theorem dX7_totalGrains_10 : decode cX7_totalGrains 10 = .ok (.bipush 16, 2) := by decide +kernel
theorem dX7_totalGrains_12 : decode cX7_totalGrains 12 = .ok (.if_icmp .ge 21, 3) := by decide +kernel
theorem dX7_totalGrains_15 : decode cX7_totalGrains 15 = .ok (.iload_n 1, 1) := by decide +kernel
theorem dX7_totalGrains_16 : decode cX7_totalGrains 16 = .ok (.aload_n 0, 1) := by decide +kernel
theorem dX7_totalGrains_17 : decode cX7_totalGrains 17 = .ok (.getfield 7, 3) := by decide +kernel
theorem dX7_totalGrains_20 : decode cX7_totalGrains 20 = .ok (.bipush 16, 2) := by decide +kernel
theorem dX7_totalGrains_22 : decode cX7_totalGrains 22 = .ok (.iload_n 2, 1) := by decide +kernel
theorem dX7_totalGrains_23 : decode cX7_totalGrains 23 = .ok (.iadd, 1) := by decide +kernel
theorem dX7_totalGrains_24 : decode cX7_totalGrains 24 = .ok (.iaload, 1) := by decide +kernel
theorem dX7_totalGrains_25 : decode cX7_totalGrains 25 = .ok (.iadd, 1) := by decide +kernel
theorem dX7_totalGrains_26 : decode cX7_totalGrains 26 = .ok (.istore_n 1, 1) := by decide +kernel
theorem dX7_totalGrains_27 : decode cX7_totalGrains 27 = .ok (.iinc 2 1, 3) := by decide +kernel
theorem dX7_totalGrains_30 : decode cX7_totalGrains 30 = .ok (.goto (-21), 3) := by decide +kernel
theorem dX7_totalGrains_33 : decode cX7_totalGrains 33 = .ok (.iload_n 1, 1) := by decide +kernel
theorem dX7_totalGrains_34 : decode cX7_totalGrains 34 = .ok (.ireturn, 1) := by decide +kernel
theorem dX7_eaten_0 : decode cX7_eaten 0 = .ok (.aload_n 0, 1) := by decide +kernel
theorem dX7_eaten_1 : decode cX7_eaten 1 = .ok (.iconst 0, 1) := by decide +kernel
theorem dX7_eaten_2 : decode cX7_eaten 2 = .ok (.putfield 39, 3) := by decide +kernel
theorem dX7_eaten_5 : decode cX7_eaten 5 = .ok (.aload_n 0, 1) := by decide +kernel
theorem dX7_eaten_6 : decode cX7_eaten 6 = .ok (.getfield 7, 3) := by decide +kernel
theorem dX7_eaten_9 : decode cX7_eaten 9 = .ok (.iconst 3, 1) := by decide +kernel
theorem dX7_eaten_10 : decode cX7_eaten 10 = .ok (.iaload, 1) := by decide +kernel
theorem dX7_eaten_11 : decode cX7_eaten 11 = .ok (.ireturn, 1) := by decide +kernel
theorem dX7_sown_0 : decode cX7_sown 0 = .ok (.aload_n 0, 1) := by decide +kernel
theorem dX7_sown_1 : decode cX7_sown 1 = .ok (.iconst 0, 1) := by decide +kernel
theorem dX7_sown_2 : decode cX7_sown 2 = .ok (.putfield 39, 3) := by decide +kernel
theorem dX7_sown_5 : decode cX7_sown 5 = .ok (.aload_n 0, 1) := by decide +kernel
theorem dX7_sown_6 : decode cX7_sown 6 = .ok (.getfield 7, 3) := by decide +kernel
theorem dX7_sown_9 : decode cX7_sown 9 = .ok (.iconst 4, 1) := by decide +kernel
theorem dX7_sown_10 : decode cX7_sown 10 = .ok (.iaload, 1) := by decide +kernel
theorem dX7_sown_11 : decode cX7_sown 11 = .ok (.ireturn, 1) := by decide +kernel
set_option maxRecDepth 20000 in
theorem ggX7_meanDaysLeft_X7_fails : GoodIn wsX7_meanDaysLeft wsX7_fails := goodIn_r _ [6, 7, 8, 13, 14, 15, 16, 17, 18, 19, 20, 21, 22, 23, 24, 25, 26, 27, 28, 29, 30, 31, 32, 33] (by decide +kernel) (by decide +kernel)
set_option maxRecDepth 20000 in
theorem gX7_meanDaysLeft_X7_fails : GoodIn wsX7_meanDaysLeft (wsV RX7 73 RX7 yX7_fails wsX7_fails) := goodIn_app (goodIn_of _ (by decide +kernel)) ggX7_meanDaysLeft_X7_fails
set_option maxRecDepth 20000 in
theorem ggX7_meanDaysLeft_X7_of : GoodIn wsX7_meanDaysLeft wsX7_of := goodIn_ca (goodIn_r _ [12, 1, 13, 14, 15, 16, 17, 18, 19, 20, 21, 22, 23, 24, 25, 26, 27, 28, 29, 30, 31, 32, 33] (by decide +kernel) (by decide +kernel)) (goodIn_sub (fun _ h => List.mem_cons_of_mem _ (List.mem_append_right _ h)) (by decide +kernel))
set_option maxRecDepth 20000 in
theorem gX7_meanDaysLeft_X7_of : GoodIn wsX7_meanDaysLeft (wsV RX7 107 RX7 yX7_of wsX7_of) := goodIn_app (goodIn_of _ (by decide +kernel)) ggX7_meanDaysLeft_X7_of
theorem dX7_meanDaysLeft_0 : decode cX7_meanDaysLeft 0 = .ok (.aload_n 0, 1) := by decide +kernel
theorem dX7_meanDaysLeft_1 : decode cX7_meanDaysLeft 1 = .ok (.aload_n 0, 1) := by decide +kernel
theorem dX7_meanDaysLeft_2 : decode cX7_meanDaysLeft 2 = .ok (.getfield 7, 3) := by decide +kernel
theorem dX7_meanDaysLeft_5 : decode cX7_meanDaysLeft 5 = .ok (.iconst 1, 1) := by decide +kernel
theorem dX7_meanDaysLeft_6 : decode cX7_meanDaysLeft 6 = .ok (.iaload, 1) := by decide +kernel
theorem dX7_meanDaysLeft_7 : decode cX7_meanDaysLeft 7 = .ok (.ifCond .ne 7, 3) := by decide +kernel
theorem dX7_meanDaysLeft_10 : decode cX7_meanDaysLeft 10 = .ok (.iconst 1, 1) := by decide +kernel
theorem dX7_meanDaysLeft_11 : decode cX7_meanDaysLeft 11 = .ok (.goto 4, 3) := by decide +kernel
theorem dX7_meanDaysLeft_14 : decode cX7_meanDaysLeft 14 = .ok (.iconst 0, 1) := by decide +kernel
theorem dX7_meanDaysLeft_15 : decode cX7_meanDaysLeft 15 = .ok (.invokevirtual 73, 3) := by decide +kernel
theorem dX7_meanDaysLeft_18 : decode cX7_meanDaysLeft 18 = .ok (.ifCond .eq 5, 3) := by decide +kernel
theorem dX7_meanDaysLeft_21 : decode cX7_meanDaysLeft 21 = .ok (.dconst 0, 1) := by decide +kernel
theorem dX7_meanDaysLeft_22 : decode cX7_meanDaysLeft 22 = .ok (.dreturn, 1) := by decide +kernel
theorem dX7_meanDaysLeft_23 : decode cX7_meanDaysLeft 23 = .ok (.iconst 0, 1) := by decide +kernel
theorem dX7_meanDaysLeft_24 : decode cX7_meanDaysLeft 24 = .ok (.istore_n 1, 1) := by decide +kernel
theorem dX7_meanDaysLeft_25 : decode cX7_meanDaysLeft 25 = .ok (.iconst 0, 1) := by decide +kernel
theorem dX7_meanDaysLeft_26 : decode cX7_meanDaysLeft 26 = .ok (.istore_n 2, 1) := by decide +kernel
theorem dX7_meanDaysLeft_27 : decode cX7_meanDaysLeft 27 = .ok (.iload_n 2, 1) := by decide +kernel
theorem dX7_meanDaysLeft_28 : decode cX7_meanDaysLeft 28 = .ok (.aload_n 0, 1) := by decide +kernel
theorem dX7_meanDaysLeft_29 : decode cX7_meanDaysLeft 29 = .ok (.getfield 7, 3) := by decide +kernel
theorem dX7_meanDaysLeft_32 : decode cX7_meanDaysLeft 32 = .ok (.iconst 1, 1) := by decide +kernel
theorem dX7_meanDaysLeft_33 : decode cX7_meanDaysLeft 33 = .ok (.iaload, 1) := by decide +kernel
theorem dX7_meanDaysLeft_34 : decode cX7_meanDaysLeft 34 = .ok (.if_icmp .ge 25, 3) := by decide +kernel
theorem dX7_meanDaysLeft_37 : decode cX7_meanDaysLeft 37 = .ok (.iload_n 1, 1) := by decide +kernel
theorem dX7_meanDaysLeft_38 : decode cX7_meanDaysLeft 38 = .ok (.aload_n 0, 1) := by decide +kernel
theorem dX7_meanDaysLeft_39 : decode cX7_meanDaysLeft 39 = .ok (.iload_n 2, 1) := by decide +kernel
theorem dX7_meanDaysLeft_40 : decode cX7_meanDaysLeft 40 = .ok (.iconst 3, 1) := by decide +kernel
theorem dX7_meanDaysLeft_41 : decode cX7_meanDaysLeft 41 = .ok (.invokevirtual 107, 3) := by decide +kernel
theorem dX7_meanDaysLeft_44 : decode cX7_meanDaysLeft 44 = .ok (.aload_n 0, 1) := by decide +kernel
theorem dX7_meanDaysLeft_45 : decode cX7_meanDaysLeft 45 = .ok (.getfield 7, 3) := by decide +kernel
theorem dX7_meanDaysLeft_48 : decode cX7_meanDaysLeft 48 = .ok (.iconst 2, 1) := by decide +kernel
theorem dX7_meanDaysLeft_49 : decode cX7_meanDaysLeft 49 = .ok (.iaload, 1) := by decide +kernel
theorem dX7_meanDaysLeft_50 : decode cX7_meanDaysLeft 50 = .ok (.isub, 1) := by decide +kernel
theorem dX7_meanDaysLeft_51 : decode cX7_meanDaysLeft 51 = .ok (.iadd, 1) := by decide +kernel
theorem dX7_meanDaysLeft_52 : decode cX7_meanDaysLeft 52 = .ok (.istore_n 1, 1) := by decide +kernel
theorem dX7_meanDaysLeft_53 : decode cX7_meanDaysLeft 53 = .ok (.iinc 2 1, 3) := by decide +kernel
theorem dX7_meanDaysLeft_56 : decode cX7_meanDaysLeft 56 = .ok (.goto (-29), 3) := by decide +kernel
theorem dX7_meanDaysLeft_59 : decode cX7_meanDaysLeft 59 = .ok (.iload_n 1, 1) := by decide +kernel
theorem dX7_meanDaysLeft_60 : decode cX7_meanDaysLeft 60 = .ok (.i2d, 1) := by decide +kernel
theorem dX7_meanDaysLeft_61 : decode cX7_meanDaysLeft 61 = .ok (.aload_n 0, 1) := by decide +kernel
theorem dX7_meanDaysLeft_62 : decode cX7_meanDaysLeft 62 = .ok (.getfield 7, 3) := by decide +kernel
theorem dX7_meanDaysLeft_65 : decode cX7_meanDaysLeft 65 = .ok (.iconst 1, 1) := by decide +kernel
theorem dX7_meanDaysLeft_66 : decode cX7_meanDaysLeft 66 = .ok (.iaload, 1) := by decide +kernel
theorem dX7_meanDaysLeft_67 : decode cX7_meanDaysLeft 67 = .ok (.i2d, 1) := by decide +kernel
theorem dX7_meanDaysLeft_68 : decode cX7_meanDaysLeft 68 = .ok (.ddiv, 1) := by decide +kernel
theorem dX7_meanDaysLeft_69 : decode cX7_meanDaysLeft 69 = .ok (.dreturn, 1) := by decide +kernel
set_option maxRecDepth 20000 in
theorem ggX7_inForceShare_X7_fails : GoodIn wsX7_inForceShare wsX7_fails := goodIn_r _ [6, 7, 8, 32, 33, 34, 35, 36, 37, 38, 39, 40, 41, 42, 43, 44, 45, 46, 47, 48, 49, 50, 51, 52] (by decide +kernel) (by decide +kernel)
set_option maxRecDepth 20000 in
theorem gX7_inForceShare_X7_fails : GoodIn wsX7_inForceShare (wsV RX7 73 RX7 yX7_fails wsX7_fails) := goodIn_app (goodIn_of _ (by decide +kernel)) ggX7_inForceShare_X7_fails
set_option maxRecDepth 20000 in
theorem ggX7_inForceShare_X7_valid : GoodIn wsX7_inForceShare wsX7_valid := goodIn_ca (goodIn_r _ [12, 1, 13, 14, 15, 5, 16, 17, 18, 19, 20, 21, 22, 23, 24, 25, 26, 27, 28, 29, 30, 31, 32, 33, 34, 35, 36, 37, 38, 39, 40, 41, 42, 43, 44, 45, 46, 47, 48, 49, 50, 51, 52] (by decide +kernel) (by decide +kernel)) (goodIn_sub (fun _ h => List.mem_cons_of_mem _ (List.mem_append_right _ h)) (by decide +kernel))
set_option maxRecDepth 20000 in
theorem gX7_inForceShare_X7_valid : GoodIn wsX7_inForceShare (wsV RX7 133 RX7 yX7_valid wsX7_valid) := goodIn_app (goodIn_of _ (by decide +kernel)) ggX7_inForceShare_X7_valid
theorem dX7_inForceShare_0 : decode cX7_inForceShare 0 = .ok (.aload_n 0, 1) := by decide +kernel
theorem dX7_inForceShare_1 : decode cX7_inForceShare 1 = .ok (.aload_n 0, 1) := by decide +kernel
theorem dX7_inForceShare_2 : decode cX7_inForceShare 2 = .ok (.getfield 7, 3) := by decide +kernel
theorem dX7_inForceShare_5 : decode cX7_inForceShare 5 = .ok (.iconst 1, 1) := by decide +kernel
theorem dX7_inForceShare_6 : decode cX7_inForceShare 6 = .ok (.iaload, 1) := by decide +kernel
theorem dX7_inForceShare_7 : decode cX7_inForceShare 7 = .ok (.ifCond .ne 7, 3) := by decide +kernel
theorem dX7_inForceShare_10 : decode cX7_inForceShare 10 = .ok (.iconst 1, 1) := by decide +kernel
theorem dX7_inForceShare_11 : decode cX7_inForceShare 11 = .ok (.goto 4, 3) := by decide +kernel
theorem dX7_inForceShare_14 : decode cX7_inForceShare 14 = .ok (.iconst 0, 1) := by decide +kernel
theorem dX7_inForceShare_15 : decode cX7_inForceShare 15 = .ok (.invokevirtual 73, 3) := by decide +kernel
theorem dX7_inForceShare_18 : decode cX7_inForceShare 18 = .ok (.ifCond .eq 7, 3) := by decide +kernel
theorem dX7_inForceShare_21 : decode cX7_inForceShare 21 = .ok (.fconst 0, 1) := by decide +kernel
theorem dX7_inForceShare_22 : decode cX7_inForceShare 22 = .ok (.goto 16, 3) := by decide +kernel
theorem dX7_inForceShare_25 : decode cX7_inForceShare 25 = .ok (.aload_n 0, 1) := by decide +kernel
theorem dX7_inForceShare_26 : decode cX7_inForceShare 26 = .ok (.invokevirtual 133, 3) := by decide +kernel
theorem dX7_inForceShare_29 : decode cX7_inForceShare 29 = .ok (.i2f, 1) := by decide +kernel
theorem dX7_inForceShare_30 : decode cX7_inForceShare 30 = .ok (.aload_n 0, 1) := by decide +kernel
theorem dX7_inForceShare_31 : decode cX7_inForceShare 31 = .ok (.getfield 7, 3) := by decide +kernel
theorem dX7_inForceShare_34 : decode cX7_inForceShare 34 = .ok (.iconst 1, 1) := by decide +kernel
theorem dX7_inForceShare_35 : decode cX7_inForceShare 35 = .ok (.iaload, 1) := by decide +kernel
theorem dX7_inForceShare_36 : decode cX7_inForceShare 36 = .ok (.i2f, 1) := by decide +kernel
theorem dX7_inForceShare_37 : decode cX7_inForceShare 37 = .ok (.fdiv, 1) := by decide +kernel
theorem dX7_inForceShare_38 : decode cX7_inForceShare 38 = .ok (.freturn, 1) := by decide +kernel
set_option maxRecDepth 20000 in
theorem ggX7_feed_X7_fails : GoodIn wsX7_feed wsX7_fails := goodIn_r _ [7, 8, 9, 10, 11, 12, 13, 14, 15, 16, 17, 18, 19, 20, 21, 22, 23, 24, 25, 26, 27, 28, 29, 30] (by decide +kernel) (by decide +kernel)
set_option maxRecDepth 20000 in
theorem gX7_feed_X7_fails : GoodIn wsX7_feed (wsV RX7 73 RX7 yX7_fails wsX7_fails) := goodIn_app (goodIn_of _ (by decide +kernel)) ggX7_feed_X7_fails
theorem dX7_feed_0 : decode cX7_feed 0 = .ok (.aload_n 0, 1) := by decide +kernel
theorem dX7_feed_1 : decode cX7_feed 1 = .ok (.aload_n 0, 1) := by decide +kernel
theorem dX7_feed_2 : decode cX7_feed 2 = .ok (.getfield 149, 3) := by decide +kernel
theorem dX7_feed_5 : decode cX7_feed 5 = .ok (.bipush 60, 2) := by decide +kernel
theorem dX7_feed_7 : decode cX7_feed 7 = .ok (.if_icmp .ne 7, 3) := by decide +kernel
theorem dX7_feed_10 : decode cX7_feed 10 = .ok (.iconst 1, 1) := by decide +kernel
theorem dX7_feed_11 : decode cX7_feed 11 = .ok (.goto 4, 3) := by decide +kernel
theorem dX7_feed_14 : decode cX7_feed 14 = .ok (.iconst 0, 1) := by decide +kernel
theorem dX7_feed_15 : decode cX7_feed 15 = .ok (.invokevirtual 73, 3) := by decide +kernel
theorem dX7_feed_18 : decode cX7_feed 18 = .ok (.ifCond .eq 5, 3) := by decide +kernel
theorem dX7_feed_21 : decode cX7_feed 21 = .ok (.iconst 0, 1) := by decide +kernel
theorem dX7_feed_22 : decode cX7_feed 22 = .ok (.ireturn, 1) := by decide +kernel
theorem dX7_feed_23 : decode cX7_feed 23 = .ok (.aload_n 0, 1) := by decide +kernel
theorem dX7_feed_24 : decode cX7_feed 24 = .ok (.getfield 25, 3) := by decide +kernel
theorem dX7_feed_27 : decode cX7_feed 27 = .ok (.aload_n 0, 1) := by decide +kernel
theorem dX7_feed_28 : decode cX7_feed 28 = .ok (.getfield 149, 3) := by decide +kernel
theorem dX7_feed_31 : decode cX7_feed 31 = .ok (.iload_n 1, 1) := by decide +kernel
theorem dX7_feed_32 : decode cX7_feed 32 = .ok (.iastore, 1) := by decide +kernel
theorem dX7_feed_33 : decode cX7_feed 33 = .ok (.aload_n 0, 1) := by decide +kernel
theorem dX7_feed_34 : decode cX7_feed 34 = .ok (.dup, 1) := by decide +kernel
theorem dX7_feed_35 : decode cX7_feed 35 = .ok (.getfield 149, 3) := by decide +kernel
theorem dX7_feed_38 : decode cX7_feed 38 = .ok (.iconst 1, 1) := by decide +kernel
theorem dX7_feed_39 : decode cX7_feed 39 = .ok (.iadd, 1) := by decide +kernel
theorem dX7_feed_40 : decode cX7_feed 40 = .ok (.putfield 149, 3) := by decide +kernel
theorem dX7_feed_43 : decode cX7_feed 43 = .ok (.aload_n 0, 1) := by decide +kernel
theorem dX7_feed_44 : decode cX7_feed 44 = .ok (.getfield 149, 3) := by decide +kernel
theorem dX7_feed_47 : decode cX7_feed 47 = .ok (.ireturn, 1) := by decide +kernel
theorem dX7_here_0 : decode cX7_here 0 = .ok (.aload_n 0, 1) := by decide +kernel
theorem dX7_here_1 : decode cX7_here 1 = .ok (.getfield 152, 3) := by decide +kernel
theorem dX7_here_4 : decode cX7_here 4 = .ok (.aload_n 0, 1) := by decide +kernel
theorem dX7_here_5 : decode cX7_here 5 = .ok (.getfield 149, 3) := by decide +kernel
theorem dX7_here_8 : decode cX7_here 8 = .ok (.if_icmp .ge 15, 3) := by decide +kernel
theorem dX7_here_11 : decode cX7_here 11 = .ok (.aload_n 0, 1) := by decide +kernel
theorem dX7_here_12 : decode cX7_here 12 = .ok (.getfield 25, 3) := by decide +kernel
theorem dX7_here_15 : decode cX7_here 15 = .ok (.aload_n 0, 1) := by decide +kernel
theorem dX7_here_16 : decode cX7_here 16 = .ok (.getfield 152, 3) := by decide +kernel
theorem dX7_here_19 : decode cX7_here 19 = .ok (.iaload, 1) := by decide +kernel
theorem dX7_here_20 : decode cX7_here 20 = .ok (.goto 4, 3) := by decide +kernel
theorem dX7_here_23 : decode cX7_here 23 = .ok (.iconst (-1), 1) := by decide +kernel
theorem dX7_here_24 : decode cX7_here 24 = .ok (.ireturn, 1) := by decide +kernel
set_option maxRecDepth 20000 in
theorem ggX7_skips_X7_here : GoodIn wsX7_skips wsX7_here := goodIn_ca (goodIn_r _ [6, 1, 7, 8, 9, 10, 11, 12, 13, 14, 15, 16, 17, 18, 19, 20, 21, 22, 23, 24, 25, 26, 27, 28, 29] (by decide +kernel) (by decide +kernel)) (goodIn_sub (fun _ h => List.mem_cons_of_mem _ (List.mem_append_right _ h)) (by decide +kernel))
set_option maxRecDepth 20000 in
theorem gX7_skips_X7_here : GoodIn wsX7_skips (wsV RX7 155 RX7 yX7_here wsX7_here) := goodIn_app (goodIn_of _ (by decide +kernel)) ggX7_skips_X7_here
theorem dX7_skips_0 : decode cX7_skips 0 = .ok (.aload_n 0, 1) := by decide +kernel
theorem dX7_skips_1 : decode cX7_skips 1 = .ok (.invokevirtual 155, 3) := by decide +kernel
theorem dX7_skips_4 : decode cX7_skips 4 = .ok (.iload_n 1, 1) := by decide +kernel
theorem dX7_skips_5 : decode cX7_skips 5 = .ok (.if_icmp .eq 5, 3) := by decide +kernel
theorem dX7_skips_8 : decode cX7_skips 8 = .ok (.iconst 0, 1) := by decide +kernel
theorem dX7_skips_9 : decode cX7_skips 9 = .ok (.ireturn, 1) := by decide +kernel
theorem dX7_skips_10 : decode cX7_skips 10 = .ok (.aload_n 0, 1) := by decide +kernel
theorem dX7_skips_11 : decode cX7_skips 11 = .ok (.dup, 1) := by decide +kernel
theorem dX7_skips_12 : decode cX7_skips 12 = .ok (.getfield 152, 3) := by decide +kernel
theorem dX7_skips_15 : decode cX7_skips 15 = .ok (.iconst 1, 1) := by decide +kernel
theorem dX7_skips_16 : decode cX7_skips 16 = .ok (.iadd, 1) := by decide +kernel
theorem dX7_skips_17 : decode cX7_skips 17 = .ok (.putfield 152, 3) := by decide +kernel
theorem dX7_skips_20 : decode cX7_skips 20 = .ok (.iconst 1, 1) := by decide +kernel
theorem dX7_skips_21 : decode cX7_skips 21 = .ok (.ireturn, 1) := by decide +kernel
set_option maxRecDepth 20000 in
theorem ggX7_isWord_J0_length_8abf5 : GoodIn wsX7_isWord wsJ0_length_8abf5 := goodIn_r _ [7, 8, 9, 10, 11, 6, 12, 13, 14, 85, 86, 87, 88] (by decide +kernel) (by decide +kernel)
set_option maxRecDepth 20000 in
theorem gX7_isWord_J0_length_8abf5 : GoodIn wsX7_isWord (wsV RX7 161 RJ0 yJ0_length_8abf5 wsJ0_length_8abf5) := goodIn_app (goodIn_of _ (by decide +kernel)) ggX7_isWord_J0_length_8abf5
set_option maxRecDepth 20000 in
theorem ggX7_isWord_J0_charAt_5068e : GoodIn wsX7_isWord wsJ0_charAt_5068e := goodIn_r _ [18, 8, 19, 20, 21, 6, 22, 13, 14, 23, 24, 25, 26, 27, 28, 29, 30, 31, 32, 33, 34, 35, 36, 37, 38, 39, 40, 41, 42, 43, 44, 45, 46, 47, 48, 49, 50, 51, 85, 86, 87, 88] (by decide +kernel) (by decide +kernel)
set_option maxRecDepth 20000 in
theorem gX7_isWord_J0_charAt_5068e : GoodIn wsX7_isWord (wsV RX7 165 RJ0 yJ0_charAt_5068e wsJ0_charAt_5068e) := goodIn_app (goodIn_of _ (by decide +kernel)) ggX7_isWord_J0_charAt_5068e
set_option maxRecDepth 20000 in
theorem ggX7_isWord_X7_skips : GoodIn wsX7_isWord wsX7_skips := goodIn_ca (goodIn_r _ [56, 57, 58, 59, 60, 55, 61, 62, 63, 64, 65, 66, 67, 68, 69, 70, 71, 72, 73, 74, 75, 76, 77, 78, 79, 80, 81, 82, 83, 84] (by decide +kernel) (by decide +kernel)) (goodIn_sub (fun _ h => List.mem_cons_of_mem _ (List.mem_append_right _ h)) (by decide +kernel))
set_option maxRecDepth 20000 in
theorem gX7_isWord_X7_skips : GoodIn wsX7_isWord (wsV RX7 169 RX7 yX7_skips wsX7_skips) := goodIn_app (goodIn_of _ (by decide +kernel)) ggX7_isWord_X7_skips
theorem dX7_isWord_0 : decode cX7_isWord 0 = .ok (.aload_n 0, 1) := by decide +kernel
theorem dX7_isWord_1 : decode cX7_isWord 1 = .ok (.getfield 36, 3) := by decide +kernel
theorem dX7_isWord_4 : decode cX7_isWord 4 = .ok (.iconst 4, 1) := by decide +kernel
theorem dX7_isWord_5 : decode cX7_isWord 5 = .ok (.aload_n 0, 1) := by decide +kernel
theorem dX7_isWord_6 : decode cX7_isWord 6 = .ok (.getfield 158, 3) := by decide +kernel
theorem dX7_isWord_9 : decode cX7_isWord 9 = .ok (.imul, 1) := by decide +kernel
theorem dX7_isWord_10 : decode cX7_isWord 10 = .ok (.iload_n 1, 1) := by decide +kernel
theorem dX7_isWord_11 : decode cX7_isWord 11 = .ok (.iastore, 1) := by decide +kernel
theorem dX7_isWord_12 : decode cX7_isWord 12 = .ok (.iconst 0, 1) := by decide +kernel
theorem dX7_isWord_13 : decode cX7_isWord 13 = .ok (.istore_n 3, 1) := by decide +kernel
theorem dX7_isWord_14 : decode cX7_isWord 14 = .ok (.iload_n 3, 1) := by decide +kernel
theorem dX7_isWord_15 : decode cX7_isWord 15 = .ok (.aload_n 2, 1) := by decide +kernel
theorem dX7_isWord_16 : decode cX7_isWord 16 = .ok (.invokevirtual 161, 3) := by decide +kernel
theorem dX7_isWord_19 : decode cX7_isWord 19 = .ok (.if_icmp .ge 23, 3) := by decide +kernel
theorem dX7_isWord_22 : decode cX7_isWord 22 = .ok (.aload_n 0, 1) := by decide +kernel
theorem dX7_isWord_23 : decode cX7_isWord 23 = .ok (.aload_n 2, 1) := by decide +kernel
theorem dX7_isWord_24 : decode cX7_isWord 24 = .ok (.iload_n 3, 1) := by decide +kernel
theorem dX7_isWord_25 : decode cX7_isWord 25 = .ok (.invokevirtual 165, 3) := by decide +kernel
theorem dX7_isWord_28 : decode cX7_isWord 28 = .ok (.invokevirtual 169, 3) := by decide +kernel
theorem dX7_isWord_31 : decode cX7_isWord 31 = .ok (.ifCond .ne 5, 3) := by decide +kernel
theorem dX7_isWord_34 : decode cX7_isWord 34 = .ok (.iconst 0, 1) := by decide +kernel
theorem dX7_isWord_35 : decode cX7_isWord 35 = .ok (.ireturn, 1) := by decide +kernel
theorem dX7_isWord_36 : decode cX7_isWord 36 = .ok (.iinc 3 1, 3) := by decide +kernel
theorem dX7_isWord_39 : decode cX7_isWord 39 = .ok (.goto (-25), 3) := by decide +kernel
theorem dX7_isWord_42 : decode cX7_isWord 42 = .ok (.iconst 1, 1) := by decide +kernel
theorem dX7_isWord_43 : decode cX7_isWord 43 = .ok (.ireturn, 1) := by decide +kernel
set_option maxRecDepth 20000 in
theorem ggX7_figures_X7_skips : GoodIn wsX7_figures wsX7_skips := goodIn_ca (goodIn_r _ [7, 2, 8, 9, 10, 6, 11, 12, 13, 17, 18, 19, 20, 21, 22, 23, 24, 25, 26, 27, 28, 29, 30, 31, 32, 33, 34, 35, 36, 37] (by decide +kernel) (by decide +kernel)) (goodIn_sub (fun _ h => List.mem_cons_of_mem _ (List.mem_append_right _ h)) (by decide +kernel))
set_option maxRecDepth 20000 in
theorem gX7_figures_X7_skips : GoodIn wsX7_figures (wsV RX7 169 RX7 yX7_skips wsX7_skips) := goodIn_app (goodIn_of _ (by decide +kernel)) ggX7_figures_X7_skips
set_option maxRecDepth 20000 in
theorem ggX7_figures_X7_here : GoodIn wsX7_figures wsX7_here := goodIn_ca (goodIn_r _ [11, 2, 12, 13, 17, 18, 19, 20, 21, 22, 23, 24, 25, 26, 27, 28, 29, 30, 31, 32, 33, 34, 35, 36, 37] (by decide +kernel) (by decide +kernel)) (goodIn_sub (fun _ h => List.mem_cons_of_mem _ (List.mem_append_right _ h)) (by decide +kernel))
set_option maxRecDepth 20000 in
theorem gX7_figures_X7_here : GoodIn wsX7_figures (wsV RX7 155 RX7 yX7_here wsX7_here) := goodIn_app (goodIn_of _ (by decide +kernel)) ggX7_figures_X7_here
set_option maxRecDepth 20000 in
theorem ggX7_figures_X7_in : GoodIn wsX7_figures wsX7_in := goodIn_r _ [16] (by decide +kernel) (by decide +kernel)
set_option maxRecDepth 20000 in
theorem gX7_figures_X7_in : GoodIn wsX7_figures (va_wsS RX7 65 yX7_in wsX7_in) := goodIn_app (goodIn_of _ (by decide +kernel)) ggX7_figures_X7_in
theorem dX7_figures_0 : decode cX7_figures 0 = .ok (.aload_n 0, 1) := by decide +kernel
theorem dX7_figures_1 : decode cX7_figures 1 = .ok (.iload_n 1, 1) := by decide +kernel
theorem dX7_figures_2 : decode cX7_figures 2 = .ok (.invokevirtual 169, 3) := by decide +kernel
theorem dX7_figures_5 : decode cX7_figures 5 = .ok (.ifCond .eq 17, 3) := by decide +kernel
theorem dX7_figures_8 : decode cX7_figures 8 = .ok (.aload_n 0, 1) := by decide +kernel
theorem dX7_figures_9 : decode cX7_figures 9 = .ok (.invokevirtual 155, 3) := by decide +kernel
theorem dX7_figures_12 : decode cX7_figures 12 = .ok (.bipush 48, 2) := by decide +kernel
theorem dX7_figures_14 : decode cX7_figures 14 = .ok (.bipush 57, 2) := by decide +kernel
theorem dX7_figures_16 : decode cX7_figures 16 = .ok (.invokestatic 65, 3) := by decide +kernel
theorem dX7_figures_19 : decode cX7_figures 19 = .ok (.ifCond .ne 5, 3) := by decide +kernel
theorem dX7_figures_22 : decode cX7_figures 22 = .ok (.iconst 0, 1) := by decide +kernel
theorem dX7_figures_23 : decode cX7_figures 23 = .ok (.ireturn, 1) := by decide +kernel
theorem dX7_figures_24 : decode cX7_figures 24 = .ok (.aload_n 0, 1) := by decide +kernel
theorem dX7_figures_25 : decode cX7_figures 25 = .ok (.getfield 36, 3) := by decide +kernel
theorem dX7_figures_28 : decode cX7_figures 28 = .ok (.iload_n 2, 1) := by decide +kernel
theorem dX7_figures_29 : decode cX7_figures 29 = .ok (.iconst 0, 1) := by decide +kernel
theorem dX7_figures_30 : decode cX7_figures 30 = .ok (.iastore, 1) := by decide +kernel
theorem dX7_figures_31 : decode cX7_figures 31 = .ok (.iconst 0, 1) := by decide +kernel
theorem dX7_figures_32 : decode cX7_figures 32 = .ok (.istore 4, 2) := by decide +kernel
theorem dX7_figures_34 : decode cX7_figures 34 = .ok (.iload 4, 2) := by decide +kernel
theorem dX7_figures_36 : decode cX7_figures 36 = .ok (.iload_n 3, 1) := by decide +kernel
theorem dX7_figures_37 : decode cX7_figures 37 = .ok (.if_icmp .ge 56, 3) := by decide +kernel
theorem dX7_figures_40 : decode cX7_figures 40 = .ok (.aload_n 0, 1) := by decide +kernel
theorem dX7_figures_41 : decode cX7_figures 41 = .ok (.invokevirtual 155, 3) := by decide +kernel
theorem dX7_figures_44 : decode cX7_figures 44 = .ok (.bipush 48, 2) := by decide +kernel
theorem dX7_figures_46 : decode cX7_figures 46 = .ok (.bipush 57, 2) := by decide +kernel
theorem dX7_figures_48 : decode cX7_figures 48 = .ok (.invokestatic 65, 3) := by decide +kernel
theorem dX7_figures_51 : decode cX7_figures 51 = .ok (.ifCond .eq 42, 3) := by decide +kernel
theorem dX7_figures_54 : decode cX7_figures 54 = .ok (.aload_n 0, 1) := by decide +kernel
theorem dX7_figures_55 : decode cX7_figures 55 = .ok (.getfield 36, 3) := by decide +kernel
theorem dX7_figures_58 : decode cX7_figures 58 = .ok (.iload_n 2, 1) := by decide +kernel
theorem dX7_figures_59 : decode cX7_figures 59 = .ok (.bipush 10, 2) := by decide +kernel
theorem dX7_figures_61 : decode cX7_figures 61 = .ok (.aload_n 0, 1) := by decide +kernel
theorem dX7_figures_62 : decode cX7_figures 62 = .ok (.getfield 36, 3) := by decide +kernel
theorem dX7_figures_65 : decode cX7_figures 65 = .ok (.iload_n 2, 1) := by decide +kernel
theorem dX7_figures_66 : decode cX7_figures 66 = .ok (.iaload, 1) := by decide +kernel
theorem dX7_figures_67 : decode cX7_figures 67 = .ok (.imul, 1) := by decide +kernel
theorem dX7_figures_68 : decode cX7_figures 68 = .ok (.aload_n 0, 1) := by decide +kernel
theorem dX7_figures_69 : decode cX7_figures 69 = .ok (.invokevirtual 155, 3) := by decide +kernel
theorem dX7_figures_72 : decode cX7_figures 72 = .ok (.iadd, 1) := by decide +kernel
theorem dX7_figures_73 : decode cX7_figures 73 = .ok (.bipush 48, 2) := by decide +kernel
theorem dX7_figures_75 : decode cX7_figures 75 = .ok (.isub, 1) := by decide +kernel
theorem dX7_figures_76 : decode cX7_figures 76 = .ok (.iastore, 1) := by decide +kernel
theorem dX7_figures_77 : decode cX7_figures 77 = .ok (.aload_n 0, 1) := by decide +kernel
theorem dX7_figures_78 : decode cX7_figures 78 = .ok (.dup, 1) := by decide +kernel
theorem dX7_figures_79 : decode cX7_figures 79 = .ok (.getfield 152, 3) := by decide +kernel
theorem dX7_figures_82 : decode cX7_figures 82 = .ok (.iconst 1, 1) := by decide +kernel
theorem dX7_figures_83 : decode cX7_figures 83 = .ok (.iadd, 1) := by decide +kernel
theorem dX7_figures_84 : decode cX7_figures 84 = .ok (.putfield 152, 3) := by decide +kernel
theorem dX7_figures_87 : decode cX7_figures 87 = .ok (.iinc 4 1, 3) := by decide +kernel
theorem dX7_figures_90 : decode cX7_figures 90 = .ok (.goto (-56), 3) := by decide +kernel
theorem dX7_figures_93 : decode cX7_figures 93 = .ok (.iconst 1, 1) := by decide +kernel
theorem dX7_figures_94 : decode cX7_figures 94 = .ok (.ireturn, 1) := by decide +kernel
set_option maxRecDepth 20000 in
theorem ggX7_withR_X7_skips : GoodIn wsX7_withR wsX7_skips := goodIn_ca (goodIn_r _ [5, 6, 7, 8, 9, 4, 10, 11, 12, 75, 76, 77, 78, 79, 80, 81, 82, 83, 84, 85, 86, 87, 88, 89, 90, 91, 92, 93, 94, 95] (by decide +kernel) (by decide +kernel)) (goodIn_sub (fun _ h => List.mem_cons_of_mem _ (List.mem_append_right _ h)) (by decide +kernel))
set_option maxRecDepth 20000 in
theorem gX7_withR_X7_skips : GoodIn wsX7_withR (wsV RX7 169 RX7 yX7_skips wsX7_skips) := goodIn_app (goodIn_of _ (by decide +kernel)) ggX7_withR_X7_skips
set_option maxRecDepth 20000 in
theorem ggX7_withR_X7_isWord : GoodIn wsX7_withR wsX7_isWord := goodIn_ca (goodIn_r _ [16, 17, 18, 19, 20, 21, 22, 23, 24, 25, 26, 27, 28, 29, 30, 31, 32, 33, 34, 35, 36, 37, 38, 39, 40, 41, 42, 43, 44, 45, 46, 47, 48, 49, 50, 51, 52, 53, 54, 55, 56, 57, 58, 59, 60, 61, 62, 63, 64, 65, 66, 67, 1, 2, 3, 4, 5, 6, 7, 8, 9, 10, 11, 12, 75, 76, 77, 78, 79, 80, 81, 82, 83, 84, 85, 86, 87, 88, 89, 90, 91, 92, 93, 94, 95, 96, 97, 98, 99] (by decide +kernel) (by decide +kernel)) (goodIn_sub (fun _ h => List.mem_cons_of_mem _ (List.mem_append_right _ h)) (by decide +kernel))
set_option maxRecDepth 20000 in
theorem gX7_withR_X7_isWord : GoodIn wsX7_withR (wsV RX7 174 RX7 yX7_isWord wsX7_isWord) := goodIn_app (goodIn_of _ (by decide +kernel)) ggX7_withR_X7_isWord
set_option maxRecDepth 20000 in
theorem ggX7_withR_X7_figures : GoodIn wsX7_withR wsX7_figures := goodIn_ca (goodIn_r _ [71, 17, 6, 1, 2, 3, 4, 5, 7, 8, 9, 10, 11, 12, 72, 73, 74, 75, 76, 77, 78, 79, 80, 81, 82, 83, 84, 85, 86, 87, 88, 89, 90, 91, 92, 93, 94, 95] (by decide +kernel) (by decide +kernel)) (goodIn_sub (fun _ h => List.mem_cons_of_mem _ (List.mem_append_right _ h)) (by decide +kernel))
set_option maxRecDepth 20000 in
theorem gX7_withR_X7_figures : GoodIn wsX7_withR (wsV RX7 178 RX7 yX7_figures wsX7_figures) := goodIn_app (goodIn_of _ (by decide +kernel)) ggX7_withR_X7_figures
theorem dX7_withR_0 : decode cX7_withR 0 = .ok (.aload_n 0, 1) := by decide +kernel
theorem dX7_withR_1 : decode cX7_withR 1 = .ok (.bipush 111, 2) := by decide +kernel
theorem dX7_withR_3 : decode cX7_withR 3 = .ok (.invokevirtual 169, 3) := by decide +kernel
theorem dX7_withR_6 : decode cX7_withR 6 = .ok (.ifCond .eq 43, 3) := by decide +kernel
theorem dX7_withR_9 : decode cX7_withR 9 = .ok (.aload_n 0, 1) := by decide +kernel
theorem dX7_withR_10 : decode cX7_withR 10 = .ok (.iconst 4, 1) := by decide +kernel
theorem dX7_withR_11 : decode cX7_withR 11 = .ok (.ldc 172, 2) := by decide +kernel
theorem dX7_withR_13 : decode cX7_withR 13 = .ok (.invokevirtual 174, 3) := by decide +kernel
theorem dX7_withR_16 : decode cX7_withR 16 = .ok (.ifCond .eq 31, 3) := by decide +kernel
theorem dX7_withR_19 : decode cX7_withR 19 = .ok (.aload_n 0, 1) := by decide +kernel
theorem dX7_withR_20 : decode cX7_withR 20 = .ok (.bipush 32, 2) := by decide +kernel
theorem dX7_withR_22 : decode cX7_withR 22 = .ok (.iload_n 1, 1) := by decide +kernel
theorem dX7_withR_23 : decode cX7_withR 23 = .ok (.iconst 1, 1) := by decide +kernel
theorem dX7_withR_24 : decode cX7_withR 24 = .ok (.invokevirtual 178, 3) := by decide +kernel
theorem dX7_withR_27 : decode cX7_withR 27 = .ok (.ifCond .eq 20, 3) := by decide +kernel
theorem dX7_withR_30 : decode cX7_withR 30 = .ok (.aload_n 0, 1) := by decide +kernel
theorem dX7_withR_31 : decode cX7_withR 31 = .ok (.bipush 32, 2) := by decide +kernel
theorem dX7_withR_33 : decode cX7_withR 33 = .ok (.iload_n 1, 1) := by decide +kernel
theorem dX7_withR_34 : decode cX7_withR 34 = .ok (.iconst 1, 1) := by decide +kernel
theorem dX7_withR_35 : decode cX7_withR 35 = .ok (.iadd, 1) := by decide +kernel
theorem dX7_withR_36 : decode cX7_withR 36 = .ok (.iconst 2, 1) := by decide +kernel
theorem dX7_withR_37 : decode cX7_withR 37 = .ok (.invokevirtual 178, 3) := by decide +kernel
theorem dX7_withR_40 : decode cX7_withR 40 = .ok (.ifCond .eq 7, 3) := by decide +kernel
theorem dX7_withR_43 : decode cX7_withR 43 = .ok (.iconst 1, 1) := by decide +kernel
theorem dX7_withR_44 : decode cX7_withR 44 = .ok (.goto 4, 3) := by decide +kernel
theorem dX7_withR_47 : decode cX7_withR 47 = .ok (.iconst 0, 1) := by decide +kernel
theorem dX7_withR_48 : decode cX7_withR 48 = .ok (.ireturn, 1) := by decide +kernel
theorem dX7_withR_49 : decode cX7_withR 49 = .ok (.aload_n 0, 1) := by decide +kernel
theorem dX7_withR_50 : decode cX7_withR 50 = .ok (.bipush 101, 2) := by decide +kernel
theorem dX7_withR_52 : decode cX7_withR 52 = .ok (.invokevirtual 169, 3) := by decide +kernel
theorem dX7_withR_55 : decode cX7_withR 55 = .ok (.ifCond .ne 5, 3) := by decide +kernel
theorem dX7_withR_58 : decode cX7_withR 58 = .ok (.iconst 0, 1) := by decide +kernel
theorem dX7_withR_59 : decode cX7_withR 59 = .ok (.ireturn, 1) := by decide +kernel
theorem dX7_withR_60 : decode cX7_withR 60 = .ok (.aload_n 0, 1) := by decide +kernel
theorem dX7_withR_61 : decode cX7_withR 61 = .ok (.bipush 118, 2) := by decide +kernel
theorem dX7_withR_63 : decode cX7_withR 63 = .ok (.invokevirtual 169, 3) := by decide +kernel
theorem dX7_withR_66 : decode cX7_withR 66 = .ok (.ifCond .eq 32, 3) := by decide +kernel
theorem dX7_withR_69 : decode cX7_withR 69 = .ok (.aload_n 0, 1) := by decide +kernel
theorem dX7_withR_70 : decode cX7_withR 70 = .ok (.iconst 2, 1) := by decide +kernel
theorem dX7_withR_71 : decode cX7_withR 71 = .ok (.ldc 181, 2) := by decide +kernel
theorem dX7_withR_73 : decode cX7_withR 73 = .ok (.invokevirtual 174, 3) := by decide +kernel
theorem dX7_withR_76 : decode cX7_withR 76 = .ok (.ifCond .eq 18, 3) := by decide +kernel
theorem dX7_withR_79 : decode cX7_withR 79 = .ok (.aload_n 0, 1) := by decide +kernel
theorem dX7_withR_80 : decode cX7_withR 80 = .ok (.bipush 32, 2) := by decide +kernel
theorem dX7_withR_82 : decode cX7_withR 82 = .ok (.iload_n 1, 1) := by decide +kernel
theorem dX7_withR_83 : decode cX7_withR 83 = .ok (.iconst 1, 1) := by decide +kernel
theorem dX7_withR_84 : decode cX7_withR 84 = .ok (.invokevirtual 178, 3) := by decide +kernel
theorem dX7_withR_87 : decode cX7_withR 87 = .ok (.ifCond .eq 7, 3) := by decide +kernel
theorem dX7_withR_90 : decode cX7_withR 90 = .ok (.iconst 1, 1) := by decide +kernel
theorem dX7_withR_91 : decode cX7_withR 91 = .ok (.goto 33, 3) := by decide +kernel
theorem dX7_withR_94 : decode cX7_withR 94 = .ok (.iconst 0, 1) := by decide +kernel
theorem dX7_withR_95 : decode cX7_withR 95 = .ok (.goto 29, 3) := by decide +kernel
theorem dX7_withR_98 : decode cX7_withR 98 = .ok (.aload_n 0, 1) := by decide +kernel
theorem dX7_withR_99 : decode cX7_withR 99 = .ok (.iconst 3, 1) := by decide +kernel
theorem dX7_withR_100 : decode cX7_withR 100 = .ok (.ldc 183, 2) := by decide +kernel
theorem dX7_withR_102 : decode cX7_withR 102 = .ok (.invokevirtual 174, 3) := by decide +kernel
theorem dX7_withR_105 : decode cX7_withR 105 = .ok (.ifCond .eq 18, 3) := by decide +kernel
theorem dX7_withR_108 : decode cX7_withR 108 = .ok (.aload_n 0, 1) := by decide +kernel
theorem dX7_withR_109 : decode cX7_withR 109 = .ok (.bipush 32, 2) := by decide +kernel
theorem dX7_withR_111 : decode cX7_withR 111 = .ok (.iload_n 1, 1) := by decide +kernel
theorem dX7_withR_112 : decode cX7_withR 112 = .ok (.iconst 1, 1) := by decide +kernel
theorem dX7_withR_113 : decode cX7_withR 113 = .ok (.invokevirtual 178, 3) := by decide +kernel
theorem dX7_withR_116 : decode cX7_withR 116 = .ok (.ifCond .eq 7, 3) := by decide +kernel
theorem dX7_withR_119 : decode cX7_withR 119 = .ok (.iconst 1, 1) := by decide +kernel
theorem dX7_withR_120 : decode cX7_withR 120 = .ok (.goto 4, 3) := by decide +kernel
theorem dX7_withR_123 : decode cX7_withR 123 = .ok (.iconst 0, 1) := by decide +kernel
theorem dX7_withR_124 : decode cX7_withR 124 = .ok (.ireturn, 1) := by decide +kernel
set_option maxRecDepth 20000 in
theorem ggX7_commandHere_X7_skips : GoodIn wsX7_commandHere wsX7_skips := goodIn_ca (goodIn_r _ [6, 7, 8, 9, 10, 5, 11, 12, 13, 79, 80, 81, 82, 83, 84, 85, 86, 87, 88, 89, 90, 91, 92, 93, 94, 95, 96, 97, 98, 99] (by decide +kernel) (by decide +kernel)) (goodIn_sub (fun _ h => List.mem_cons_of_mem _ (List.mem_append_right _ h)) (by decide +kernel))
set_option maxRecDepth 20000 in
theorem gX7_commandHere_X7_skips : GoodIn wsX7_commandHere (wsV RX7 169 RX7 yX7_skips wsX7_skips) := goodIn_app (goodIn_of _ (by decide +kernel)) ggX7_commandHere_X7_skips
set_option maxRecDepth 20000 in
theorem ggX7_commandHere_X7_isWord : GoodIn wsX7_commandHere wsX7_isWord := goodIn_ca (goodIn_r _ [17, 18, 1, 19, 20, 21, 22, 23, 24, 25, 26, 27, 28, 29, 30, 31, 32, 33, 34, 35, 36, 37, 38, 39, 40, 41, 42, 43, 44, 45, 46, 47, 48, 49, 50, 51, 52, 53, 54, 55, 56, 57, 58, 59, 60, 61, 62, 63, 64, 65, 66, 67, 2, 3, 4, 5, 6, 7, 8, 9, 10, 11, 12, 13, 79, 80, 81, 82, 83, 84, 85, 86, 87, 88, 89, 90, 91, 92, 93, 94, 95, 96, 97, 98, 99, 100, 101, 102, 103] (by decide +kernel) (by decide +kernel)) (goodIn_sub (fun _ h => List.mem_cons_of_mem _ (List.mem_append_right _ h)) (by decide +kernel))
set_option maxRecDepth 20000 in
theorem gX7_commandHere_X7_isWord : GoodIn wsX7_commandHere (wsV RX7 174 RX7 yX7_isWord wsX7_isWord) := goodIn_app (goodIn_of _ (by decide +kernel)) ggX7_commandHere_X7_isWord
set_option maxRecDepth 20000 in
theorem ggX7_commandHere_X7_figures : GoodIn wsX7_commandHere wsX7_figures := goodIn_ca (goodIn_r _ [71, 18, 7, 2, 3, 4, 5, 6, 8, 9, 10, 11, 12, 13, 72, 73, 74, 79, 80, 81, 82, 83, 84, 85, 86, 87, 88, 89, 90, 91, 92, 93, 94, 95, 96, 97, 98, 99] (by decide +kernel) (by decide +kernel)) (goodIn_sub (fun _ h => List.mem_cons_of_mem _ (List.mem_append_right _ h)) (by decide +kernel))
set_option maxRecDepth 20000 in
theorem gX7_commandHere_X7_figures : GoodIn wsX7_commandHere (wsV RX7 178 RX7 yX7_figures wsX7_figures) := goodIn_app (goodIn_of _ (by decide +kernel)) ggX7_commandHere_X7_figures
set_option maxRecDepth 20000 in
theorem ggX7_commandHere_X7_withR : GoodIn wsX7_commandHere wsX7_withR := goodIn_ca (goodIn_r _ [78, 2, 3, 4, 5, 6, 7, 8, 9, 10, 11, 12, 13, 14, 15, 16, 17, 18, 1, 19, 20, 21, 22, 23, 24, 25, 26, 27, 28, 29, 30, 31, 32, 33, 34, 35, 36, 37, 38, 39, 40, 41, 42, 43, 44, 45, 46, 47, 48, 49, 50, 51, 52, 53, 54, 55, 56, 57, 58, 59, 60, 61, 62, 63, 64, 65, 66, 67, 68, 69, 70, 71, 72, 73, 74, 79, 80, 81, 82, 83, 84, 85, 86, 87, 88, 89, 90, 91, 92, 93, 94, 95, 96, 97, 98, 99, 100, 101, 102, 103] (by decide +kernel) (by decide +kernel)) (goodIn_sub (fun _ h => List.mem_cons_of_mem _ (List.mem_append_right _ h)) (by decide +kernel))
set_option maxRecDepth 20000 in
theorem gX7_commandHere_X7_withR : GoodIn wsX7_commandHere (wsV RX7 189 RX7 yX7_withR wsX7_withR) := goodIn_app (goodIn_of _ (by decide +kernel)) ggX7_commandHere_X7_withR
theorem dX7_commandHere_0 : decode cX7_commandHere 0 = .ok (.iconst 4, 1) := by decide +kernel
theorem dX7_commandHere_1 : decode cX7_commandHere 1 = .ok (.aload_n 0, 1) := by decide +kernel
theorem dX7_commandHere_2 : decode cX7_commandHere 2 = .ok (.getfield 158, 3) := by decide +kernel
theorem dX7_commandHere_5 : decode cX7_commandHere 5 = .ok (.imul, 1) := by decide +kernel
theorem dX7_commandHere_6 : decode cX7_commandHere 6 = .ok (.iconst 1, 1) := by decide +kernel
theorem dX7_commandHere_7 : decode cX7_commandHere 7 = .ok (.iadd, 1) := by decide +kernel
theorem dX7_commandHere_8 : decode cX7_commandHere 8 = .ok (.istore_n 1, 1) := by decide +kernel
theorem dX7_commandHere_9 : decode cX7_commandHere 9 = .ok (.aload_n 0, 1) := by decide +kernel
theorem dX7_commandHere_10 : decode cX7_commandHere 10 = .ok (.bipush 112, 2) := by decide +kernel
theorem dX7_commandHere_12 : decode cX7_commandHere 12 = .ok (.invokevirtual 169, 3) := by decide +kernel
theorem dX7_commandHere_15 : decode cX7_commandHere 15 = .ok (.ifCond .eq 30, 3) := by decide +kernel
theorem dX7_commandHere_18 : decode cX7_commandHere 18 = .ok (.aload_n 0, 1) := by decide +kernel
theorem dX7_commandHere_19 : decode cX7_commandHere 19 = .ok (.iconst 0, 1) := by decide +kernel
theorem dX7_commandHere_20 : decode cX7_commandHere 20 = .ok (.ldc 185, 2) := by decide +kernel
theorem dX7_commandHere_22 : decode cX7_commandHere 22 = .ok (.invokevirtual 174, 3) := by decide +kernel
theorem dX7_commandHere_25 : decode cX7_commandHere 25 = .ok (.ifCond .eq 18, 3) := by decide +kernel
theorem dX7_commandHere_28 : decode cX7_commandHere 28 = .ok (.aload_n 0, 1) := by decide +kernel
theorem dX7_commandHere_29 : decode cX7_commandHere 29 = .ok (.bipush 32, 2) := by decide +kernel
theorem dX7_commandHere_31 : decode cX7_commandHere 31 = .ok (.iload_n 1, 1) := by decide +kernel
theorem dX7_commandHere_32 : decode cX7_commandHere 32 = .ok (.iconst 2, 1) := by decide +kernel
theorem dX7_commandHere_33 : decode cX7_commandHere 33 = .ok (.invokevirtual 178, 3) := by decide +kernel
theorem dX7_commandHere_36 : decode cX7_commandHere 36 = .ok (.ifCond .eq 7, 3) := by decide +kernel
theorem dX7_commandHere_39 : decode cX7_commandHere 39 = .ok (.iconst 1, 1) := by decide +kernel
theorem dX7_commandHere_40 : decode cX7_commandHere 40 = .ok (.goto 4, 3) := by decide +kernel
theorem dX7_commandHere_43 : decode cX7_commandHere 43 = .ok (.iconst 0, 1) := by decide +kernel
theorem dX7_commandHere_44 : decode cX7_commandHere 44 = .ok (.ireturn, 1) := by decide +kernel
theorem dX7_commandHere_45 : decode cX7_commandHere 45 = .ok (.aload_n 0, 1) := by decide +kernel
theorem dX7_commandHere_46 : decode cX7_commandHere 46 = .ok (.bipush 109, 2) := by decide +kernel
theorem dX7_commandHere_48 : decode cX7_commandHere 48 = .ok (.invokevirtual 169, 3) := by decide +kernel
theorem dX7_commandHere_51 : decode cX7_commandHere 51 = .ok (.ifCond .eq 43, 3) := by decide +kernel
theorem dX7_commandHere_54 : decode cX7_commandHere 54 = .ok (.aload_n 0, 1) := by decide +kernel
theorem dX7_commandHere_55 : decode cX7_commandHere 55 = .ok (.iconst 1, 1) := by decide +kernel
theorem dX7_commandHere_56 : decode cX7_commandHere 56 = .ok (.ldc 187, 2) := by decide +kernel
theorem dX7_commandHere_58 : decode cX7_commandHere 58 = .ok (.invokevirtual 174, 3) := by decide +kernel
theorem dX7_commandHere_61 : decode cX7_commandHere 61 = .ok (.ifCond .eq 31, 3) := by decide +kernel
theorem dX7_commandHere_64 : decode cX7_commandHere 64 = .ok (.aload_n 0, 1) := by decide +kernel
theorem dX7_commandHere_65 : decode cX7_commandHere 65 = .ok (.bipush 32, 2) := by decide +kernel
theorem dX7_commandHere_67 : decode cX7_commandHere 67 = .ok (.iload_n 1, 1) := by decide +kernel
theorem dX7_commandHere_68 : decode cX7_commandHere 68 = .ok (.iconst 1, 1) := by decide +kernel
theorem dX7_commandHere_69 : decode cX7_commandHere 69 = .ok (.invokevirtual 178, 3) := by decide +kernel
theorem dX7_commandHere_72 : decode cX7_commandHere 72 = .ok (.ifCond .eq 20, 3) := by decide +kernel
theorem dX7_commandHere_75 : decode cX7_commandHere 75 = .ok (.aload_n 0, 1) := by decide +kernel
theorem dX7_commandHere_76 : decode cX7_commandHere 76 = .ok (.bipush 62, 2) := by decide +kernel
theorem dX7_commandHere_78 : decode cX7_commandHere 78 = .ok (.iload_n 1, 1) := by decide +kernel
theorem dX7_commandHere_79 : decode cX7_commandHere 79 = .ok (.iconst 1, 1) := by decide +kernel
theorem dX7_commandHere_80 : decode cX7_commandHere 80 = .ok (.iadd, 1) := by decide +kernel
theorem dX7_commandHere_81 : decode cX7_commandHere 81 = .ok (.iconst 2, 1) := by decide +kernel
theorem dX7_commandHere_82 : decode cX7_commandHere 82 = .ok (.invokevirtual 178, 3) := by decide +kernel
theorem dX7_commandHere_85 : decode cX7_commandHere 85 = .ok (.ifCond .eq 7, 3) := by decide +kernel
theorem dX7_commandHere_88 : decode cX7_commandHere 88 = .ok (.iconst 1, 1) := by decide +kernel
theorem dX7_commandHere_89 : decode cX7_commandHere 89 = .ok (.goto 4, 3) := by decide +kernel
theorem dX7_commandHere_92 : decode cX7_commandHere 92 = .ok (.iconst 0, 1) := by decide +kernel
theorem dX7_commandHere_93 : decode cX7_commandHere 93 = .ok (.ireturn, 1) := by decide +kernel
theorem dX7_commandHere_94 : decode cX7_commandHere 94 = .ok (.aload_n 0, 1) := by decide +kernel
theorem dX7_commandHere_95 : decode cX7_commandHere 95 = .ok (.bipush 114, 2) := by decide +kernel
theorem dX7_commandHere_97 : decode cX7_commandHere 97 = .ok (.invokevirtual 169, 3) := by decide +kernel
theorem dX7_commandHere_100 : decode cX7_commandHere 100 = .ok (.ifCond .eq 9, 3) := by decide +kernel
theorem dX7_commandHere_103 : decode cX7_commandHere 103 = .ok (.aload_n 0, 1) := by decide +kernel
theorem dX7_commandHere_104 : decode cX7_commandHere 104 = .ok (.iload_n 1, 1) := by decide +kernel
theorem dX7_commandHere_105 : decode cX7_commandHere 105 = .ok (.invokevirtual 189, 3) := by decide +kernel
theorem dX7_commandHere_108 : decode cX7_commandHere 108 = .ok (.ireturn, 1) := by decide +kernel
theorem dX7_commandHere_109 : decode cX7_commandHere 109 = .ok (.aload_n 0, 1) := by decide +kernel
theorem dX7_commandHere_110 : decode cX7_commandHere 110 = .ok (.bipush 105, 2) := by decide +kernel
theorem dX7_commandHere_112 : decode cX7_commandHere 112 = .ok (.invokevirtual 169, 3) := by decide +kernel
theorem dX7_commandHere_115 : decode cX7_commandHere 115 = .ok (.ifCond .eq 56, 3) := by decide +kernel
theorem dX7_commandHere_118 : decode cX7_commandHere 118 = .ok (.aload_n 0, 1) := by decide +kernel
theorem dX7_commandHere_119 : decode cX7_commandHere 119 = .ok (.iconst 5, 1) := by decide +kernel
theorem dX7_commandHere_120 : decode cX7_commandHere 120 = .ok (.ldc 192, 2) := by decide +kernel
theorem dX7_commandHere_122 : decode cX7_commandHere 122 = .ok (.invokevirtual 174, 3) := by decide +kernel
theorem dX7_commandHere_125 : decode cX7_commandHere 125 = .ok (.ifCond .eq 44, 3) := by decide +kernel
theorem dX7_commandHere_128 : decode cX7_commandHere 128 = .ok (.aload_n 0, 1) := by decide +kernel
theorem dX7_commandHere_129 : decode cX7_commandHere 129 = .ok (.bipush 32, 2) := by decide +kernel
theorem dX7_commandHere_131 : decode cX7_commandHere 131 = .ok (.iload_n 1, 1) := by decide +kernel
theorem dX7_commandHere_132 : decode cX7_commandHere 132 = .ok (.iconst 1, 1) := by decide +kernel
theorem dX7_commandHere_133 : decode cX7_commandHere 133 = .ok (.invokevirtual 178, 3) := by decide +kernel
theorem dX7_commandHere_136 : decode cX7_commandHere 136 = .ok (.ifCond .eq 33, 3) := by decide +kernel
theorem dX7_commandHere_139 : decode cX7_commandHere 139 = .ok (.aload_n 0, 1) := by decide +kernel
theorem dX7_commandHere_140 : decode cX7_commandHere 140 = .ok (.bipush 62, 2) := by decide +kernel
theorem dX7_commandHere_142 : decode cX7_commandHere 142 = .ok (.iload_n 1, 1) := by decide +kernel
theorem dX7_commandHere_143 : decode cX7_commandHere 143 = .ok (.iconst 1, 1) := by decide +kernel
theorem dX7_commandHere_144 : decode cX7_commandHere 144 = .ok (.iadd, 1) := by decide +kernel
theorem dX7_commandHere_145 : decode cX7_commandHere 145 = .ok (.iconst 1, 1) := by decide +kernel
theorem dX7_commandHere_146 : decode cX7_commandHere 146 = .ok (.invokevirtual 178, 3) := by decide +kernel
theorem dX7_commandHere_149 : decode cX7_commandHere 149 = .ok (.ifCond .eq 20, 3) := by decide +kernel
theorem dX7_commandHere_152 : decode cX7_commandHere 152 = .ok (.aload_n 0, 1) := by decide +kernel
theorem dX7_commandHere_153 : decode cX7_commandHere 153 = .ok (.bipush 32, 2) := by decide +kernel
theorem dX7_commandHere_155 : decode cX7_commandHere 155 = .ok (.iload_n 1, 1) := by decide +kernel
theorem dX7_commandHere_156 : decode cX7_commandHere 156 = .ok (.iconst 2, 1) := by decide +kernel
theorem dX7_commandHere_157 : decode cX7_commandHere 157 = .ok (.iadd, 1) := by decide +kernel
theorem dX7_commandHere_158 : decode cX7_commandHere 158 = .ok (.iconst 2, 1) := by decide +kernel
theorem dX7_commandHere_159 : decode cX7_commandHere 159 = .ok (.invokevirtual 178, 3) := by decide +kernel
theorem dX7_commandHere_162 : decode cX7_commandHere 162 = .ok (.ifCond .eq 7, 3) := by decide +kernel
theorem dX7_commandHere_165 : decode cX7_commandHere 165 = .ok (.iconst 1, 1) := by decide +kernel
theorem dX7_commandHere_166 : decode cX7_commandHere 166 = .ok (.goto 4, 3) := by decide +kernel
theorem dX7_commandHere_169 : decode cX7_commandHere 169 = .ok (.iconst 0, 1) := by decide +kernel
theorem dX7_commandHere_170 : decode cX7_commandHere 170 = .ok (.ireturn, 1) := by decide +kernel
theorem dX7_commandHere_171 : decode cX7_commandHere 171 = .ok (.aload_n 0, 1) := by decide +kernel
theorem dX7_commandHere_172 : decode cX7_commandHere 172 = .ok (.bipush 100, 2) := by decide +kernel
theorem dX7_commandHere_174 : decode cX7_commandHere 174 = .ok (.invokevirtual 169, 3) := by decide +kernel
theorem dX7_commandHere_177 : decode cX7_commandHere 177 = .ok (.ifCond .eq 31, 3) := by decide +kernel
theorem dX7_commandHere_180 : decode cX7_commandHere 180 = .ok (.aload_n 0, 1) := by decide +kernel
theorem dX7_commandHere_181 : decode cX7_commandHere 181 = .ok (.bipush 6, 2) := by decide +kernel
theorem dX7_commandHere_183 : decode cX7_commandHere 183 = .ok (.ldc 194, 2) := by decide +kernel
theorem dX7_commandHere_185 : decode cX7_commandHere 185 = .ok (.invokevirtual 174, 3) := by decide +kernel
theorem dX7_commandHere_188 : decode cX7_commandHere 188 = .ok (.ifCond .eq 18, 3) := by decide +kernel
theorem dX7_commandHere_191 : decode cX7_commandHere 191 = .ok (.aload_n 0, 1) := by decide +kernel
theorem dX7_commandHere_192 : decode cX7_commandHere 192 = .ok (.bipush 32, 2) := by decide +kernel
theorem dX7_commandHere_194 : decode cX7_commandHere 194 = .ok (.iload_n 1, 1) := by decide +kernel
theorem dX7_commandHere_195 : decode cX7_commandHere 195 = .ok (.iconst 2, 1) := by decide +kernel
theorem dX7_commandHere_196 : decode cX7_commandHere 196 = .ok (.invokevirtual 178, 3) := by decide +kernel
theorem dX7_commandHere_199 : decode cX7_commandHere 199 = .ok (.ifCond .eq 7, 3) := by decide +kernel
theorem dX7_commandHere_202 : decode cX7_commandHere 202 = .ok (.iconst 1, 1) := by decide +kernel
theorem dX7_commandHere_203 : decode cX7_commandHere 203 = .ok (.goto 4, 3) := by decide +kernel
theorem dX7_commandHere_206 : decode cX7_commandHere 206 = .ok (.iconst 0, 1) := by decide +kernel
theorem dX7_commandHere_207 : decode cX7_commandHere 207 = .ok (.ireturn, 1) := by decide +kernel
theorem dX7_commandHere_208 : decode cX7_commandHere 208 = .ok (.aload_n 0, 1) := by decide +kernel
theorem dX7_commandHere_209 : decode cX7_commandHere 209 = .ok (.bipush 115, 2) := by decide +kernel
theorem dX7_commandHere_211 : decode cX7_commandHere 211 = .ok (.invokevirtual 169, 3) := by decide +kernel
theorem dX7_commandHere_214 : decode cX7_commandHere 214 = .ok (.ifCond .eq 44, 3) := by decide +kernel
theorem dX7_commandHere_217 : decode cX7_commandHere 217 = .ok (.aload_n 0, 1) := by decide +kernel
theorem dX7_commandHere_218 : decode cX7_commandHere 218 = .ok (.bipush 7, 2) := by decide +kernel
theorem dX7_commandHere_220 : decode cX7_commandHere 220 = .ok (.ldc 196, 2) := by decide +kernel
theorem dX7_commandHere_222 : decode cX7_commandHere 222 = .ok (.invokevirtual 174, 3) := by decide +kernel
theorem dX7_commandHere_225 : decode cX7_commandHere 225 = .ok (.ifCond .eq 31, 3) := by decide +kernel
theorem dX7_commandHere_228 : decode cX7_commandHere 228 = .ok (.aload_n 0, 1) := by decide +kernel
theorem dX7_commandHere_229 : decode cX7_commandHere 229 = .ok (.bipush 32, 2) := by decide +kernel
theorem dX7_commandHere_231 : decode cX7_commandHere 231 = .ok (.iload_n 1, 1) := by decide +kernel
theorem dX7_commandHere_232 : decode cX7_commandHere 232 = .ok (.iconst 2, 1) := by decide +kernel
theorem dX7_commandHere_233 : decode cX7_commandHere 233 = .ok (.invokevirtual 178, 3) := by decide +kernel
theorem dX7_commandHere_236 : decode cX7_commandHere 236 = .ok (.ifCond .eq 20, 3) := by decide +kernel
theorem dX7_commandHere_239 : decode cX7_commandHere 239 = .ok (.aload_n 0, 1) := by decide +kernel
theorem dX7_commandHere_240 : decode cX7_commandHere 240 = .ok (.bipush 32, 2) := by decide +kernel
theorem dX7_commandHere_242 : decode cX7_commandHere 242 = .ok (.iload_n 1, 1) := by decide +kernel
theorem dX7_commandHere_243 : decode cX7_commandHere 243 = .ok (.iconst 1, 1) := by decide +kernel
theorem dX7_commandHere_244 : decode cX7_commandHere 244 = .ok (.iadd, 1) := by decide +kernel
theorem dX7_commandHere_245 : decode cX7_commandHere 245 = .ok (.iconst 2, 1) := by decide +kernel
theorem dX7_commandHere_246 : decode cX7_commandHere 246 = .ok (.invokevirtual 178, 3) := by decide +kernel
theorem dX7_commandHere_249 : decode cX7_commandHere 249 = .ok (.ifCond .eq 7, 3) := by decide +kernel
theorem dX7_commandHere_252 : decode cX7_commandHere 252 = .ok (.iconst 1, 1) := by decide +kernel
theorem dX7_commandHere_253 : decode cX7_commandHere 253 = .ok (.goto 4, 3) := by decide +kernel
theorem dX7_commandHere_256 : decode cX7_commandHere 256 = .ok (.iconst 0, 1) := by decide +kernel
theorem dX7_commandHere_257 : decode cX7_commandHere 257 = .ok (.ireturn, 1) := by decide +kernel
theorem dX7_commandHere_258 : decode cX7_commandHere 258 = .ok (.aload_n 0, 1) := by decide +kernel
theorem dX7_commandHere_259 : decode cX7_commandHere 259 = .ok (.bipush 119, 2) := by decide +kernel
theorem dX7_commandHere_261 : decode cX7_commandHere 261 = .ok (.invokevirtual 169, 3) := by decide +kernel
theorem dX7_commandHere_264 : decode cX7_commandHere 264 = .ok (.ifCond .eq 29, 3) := by decide +kernel
theorem dX7_commandHere_267 : decode cX7_commandHere 267 = .ok (.aload_n 0, 1) := by decide +kernel
theorem dX7_commandHere_268 : decode cX7_commandHere 268 = .ok (.bipush 8, 2) := by decide +kernel
theorem dX7_commandHere_270 : decode cX7_commandHere 270 = .ok (.ldc 198, 2) := by decide +kernel
theorem dX7_commandHere_272 : decode cX7_commandHere 272 = .ok (.invokevirtual 174, 3) := by decide +kernel
theorem dX7_commandHere_275 : decode cX7_commandHere 275 = .ok (.ifCond .eq 18, 3) := by decide +kernel
theorem dX7_commandHere_278 : decode cX7_commandHere 278 = .ok (.aload_n 0, 1) := by decide +kernel
theorem dX7_commandHere_279 : decode cX7_commandHere 279 = .ok (.bipush 32, 2) := by decide +kernel
theorem dX7_commandHere_281 : decode cX7_commandHere 281 = .ok (.iload_n 1, 1) := by decide +kernel
theorem dX7_commandHere_282 : decode cX7_commandHere 282 = .ok (.iconst 2, 1) := by decide +kernel
theorem dX7_commandHere_283 : decode cX7_commandHere 283 = .ok (.invokevirtual 178, 3) := by decide +kernel
theorem dX7_commandHere_286 : decode cX7_commandHere 286 = .ok (.ifCond .eq 7, 3) := by decide +kernel
theorem dX7_commandHere_289 : decode cX7_commandHere 289 = .ok (.iconst 1, 1) := by decide +kernel
theorem dX7_commandHere_290 : decode cX7_commandHere 290 = .ok (.goto 4, 3) := by decide +kernel
theorem dX7_commandHere_293 : decode cX7_commandHere 293 = .ok (.iconst 0, 1) := by decide +kernel
theorem dX7_commandHere_294 : decode cX7_commandHere 294 = .ok (.ireturn, 1) := by decide +kernel
set_option maxRecDepth 20000 in
theorem ggX7_isText_X7_commandHere : GoodIn wsX7_isText wsX7_commandHere := goodIn_ca (goodIn_r _ [8, 2, 9, 10, 11, 7, 12, 1, 13, 14, 15, 16, 3, 17, 18, 19, 20, 21, 22, 23, 24, 25, 26, 27, 28, 29, 30, 31, 32, 33, 34, 35, 36, 37, 38, 39, 40, 41, 42, 43, 44, 45, 46, 47, 48, 49, 50, 51, 52, 53, 54, 55, 56, 57, 58, 59, 60, 61, 62, 63, 64, 65, 66, 67, 68, 69, 70, 71, 72, 73, 74, 75, 76, 77, 78, 79, 80, 81, 82, 83, 84, 85, 86, 87, 88, 89, 90, 91, 92, 93, 94, 95, 96, 97, 98, 99, 100, 101, 102, 103, 104, 105, 106, 107] (by decide +kernel) (by decide +kernel)) (goodIn_sub (fun _ h => List.mem_cons_of_mem _ (List.mem_append_right _ h)) (by decide +kernel))
set_option maxRecDepth 20000 in
theorem gX7_isText_X7_commandHere : GoodIn wsX7_isText (wsV RX7 200 RX7 yX7_commandHere wsX7_commandHere) := goodIn_app (goodIn_of _ (by decide +kernel)) ggX7_isText_X7_commandHere
set_option maxRecDepth 20000 in
theorem ggX7_isText_X7_skips : GoodIn wsX7_isText wsX7_skips := goodIn_ca (goodIn_r _ [12, 1, 13, 14, 15, 7, 16, 3, 17, 83, 84, 85, 86, 87, 88, 89, 90, 91, 92, 93, 94, 95, 96, 97, 98, 99, 100, 101, 102, 103] (by decide +kernel) (by decide +kernel)) (goodIn_sub (fun _ h => List.mem_cons_of_mem _ (List.mem_append_right _ h)) (by decide +kernel))
set_option maxRecDepth 20000 in
theorem gX7_isText_X7_skips : GoodIn wsX7_isText (wsV RX7 169 RX7 yX7_skips wsX7_skips) := goodIn_app (goodIn_of _ (by decide +kernel)) ggX7_isText_X7_skips
theorem dX7_isText_0 : decode cX7_isText 0 = .ok (.aload_n 0, 1) := by decide +kernel
theorem dX7_isText_1 : decode cX7_isText 1 = .ok (.iconst 0, 1) := by decide +kernel
theorem dX7_isText_2 : decode cX7_isText 2 = .ok (.putfield 152, 3) := by decide +kernel
theorem dX7_isText_5 : decode cX7_isText 5 = .ok (.aload_n 0, 1) := by decide +kernel
theorem dX7_isText_6 : decode cX7_isText 6 = .ok (.iconst 0, 1) := by decide +kernel
theorem dX7_isText_7 : decode cX7_isText 7 = .ok (.putfield 158, 3) := by decide +kernel
theorem dX7_isText_10 : decode cX7_isText 10 = .ok (.aload_n 0, 1) := by decide +kernel
theorem dX7_isText_11 : decode cX7_isText 11 = .ok (.invokevirtual 200, 3) := by decide +kernel
theorem dX7_isText_14 : decode cX7_isText 14 = .ok (.ifCond .ne 5, 3) := by decide +kernel
theorem dX7_isText_17 : decode cX7_isText 17 = .ok (.iconst 0, 1) := by decide +kernel
theorem dX7_isText_18 : decode cX7_isText 18 = .ok (.ireturn, 1) := by decide +kernel
theorem dX7_isText_19 : decode cX7_isText 19 = .ok (.aload_n 0, 1) := by decide +kernel
theorem dX7_isText_20 : decode cX7_isText 20 = .ok (.dup, 1) := by decide +kernel
theorem dX7_isText_21 : decode cX7_isText 21 = .ok (.getfield 158, 3) := by decide +kernel
theorem dX7_isText_24 : decode cX7_isText 24 = .ok (.iconst 1, 1) := by decide +kernel
theorem dX7_isText_25 : decode cX7_isText 25 = .ok (.iadd, 1) := by decide +kernel
theorem dX7_isText_26 : decode cX7_isText 26 = .ok (.putfield 158, 3) := by decide +kernel
theorem dX7_isText_29 : decode cX7_isText 29 = .ok (.aload_n 0, 1) := by decide +kernel
theorem dX7_isText_30 : decode cX7_isText 30 = .ok (.bipush 59, 2) := by decide +kernel
theorem dX7_isText_32 : decode cX7_isText 32 = .ok (.invokevirtual 169, 3) := by decide +kernel
theorem dX7_isText_35 : decode cX7_isText 35 = .ok (.ifCond .ne (-25), 3) := by decide +kernel
theorem dX7_isText_38 : decode cX7_isText 38 = .ok (.aload_n 0, 1) := by decide +kernel
theorem dX7_isText_39 : decode cX7_isText 39 = .ok (.getfield 152, 3) := by decide +kernel
theorem dX7_isText_42 : decode cX7_isText 42 = .ok (.aload_n 0, 1) := by decide +kernel
theorem dX7_isText_43 : decode cX7_isText 43 = .ok (.getfield 149, 3) := by decide +kernel
theorem dX7_isText_46 : decode cX7_isText 46 = .ok (.if_icmp .ne 7, 3) := by decide +kernel
theorem dX7_isText_49 : decode cX7_isText 49 = .ok (.iconst 1, 1) := by decide +kernel
theorem dX7_isText_50 : decode cX7_isText 50 = .ok (.goto 4, 3) := by decide +kernel
theorem dX7_isText_53 : decode cX7_isText 53 = .ok (.iconst 0, 1) := by decide +kernel
theorem dX7_isText_54 : decode cX7_isText 54 = .ok (.ireturn, 1) := by decide +kernel
set_option maxRecDepth 20000 in
theorem ggX7_carries_X7_register : GoodIn wsX7_carries wsX7_register := goodIn_ca (goodIn_r _ [6, 7, 8, 9, 5, 10, 11, 12, 13, 14, 15, 16, 17, 18, 19, 20, 21, 22, 23, 24, 25, 26, 27, 28, 29, 30, 31, 32, 33, 34, 35, 36, 37, 38, 39, 40, 126, 127, 128, 129, 130, 131, 132, 133, 134, 135, 136, 137, 138, 139, 140, 141, 142, 143, 144, 145, 146] (by decide +kernel) (by decide +kernel)) (goodIn_sub (fun _ h => List.mem_cons_of_mem _ (List.mem_append_right _ h)) (by decide +kernel))
set_option maxRecDepth 20000 in
theorem gX7_carries_X7_register : GoodIn wsX7_carries (wsV RX7 204 RX7 yX7_register wsX7_register) := goodIn_app (goodIn_of _ (by decide +kernel)) ggX7_carries_X7_register
set_option maxRecDepth 20000 in
theorem ggX7_carries_X7_move : GoodIn wsX7_carries wsX7_move := goodIn_ca (goodIn_r _ [44, 7, 45, 46, 47, 5, 48, 11, 12, 13, 8, 9, 10, 14, 15, 16, 17, 18, 19, 27, 28, 29, 30, 20, 21, 22, 23, 24, 25, 26, 31, 32, 33, 34, 35, 36, 37, 38, 39, 40, 126, 127, 128, 129, 130, 131, 132, 133, 134, 135, 136, 137, 138, 139, 140, 141, 142, 143, 144, 145, 146] (by decide +kernel) (by decide +kernel)) (goodIn_sub (fun _ h => List.mem_cons_of_mem _ (List.mem_append_right _ h)) (by decide +kernel))
set_option maxRecDepth 20000 in
theorem gX7_carries_X7_move : GoodIn wsX7_carries (wsV RX7 207 RX7 yX7_move wsX7_move) := goodIn_app (goodIn_of _ (by decide +kernel)) ggX7_carries_X7_move
set_option maxRecDepth 20000 in
theorem ggX7_carries_X7_setRevoked : GoodIn wsX7_carries wsX7_setRevoked := goodIn_ca (goodIn_r _ [52, 7, 53, 54, 55, 5, 56, 45, 46, 47, 48, 11, 12, 13, 14, 15, 16, 17, 18, 19, 57, 58, 59, 20, 21, 22, 23, 24, 25, 26, 31, 32, 33, 34, 35, 36, 37, 38, 39, 40, 60, 61, 62, 63, 64, 65, 66, 67, 68, 69, 70, 71, 72, 73, 74, 126, 127, 128, 129, 130, 131, 132, 133, 134, 135, 136, 137, 138, 139, 140, 141, 142, 143, 144, 145, 146] (by decide +kernel) (by decide +kernel)) (goodIn_sub (fun _ h => List.mem_cons_of_mem _ (List.mem_append_right _ h)) (by decide +kernel))
set_option maxRecDepth 20000 in
theorem gX7_carries_X7_setRevoked : GoodIn wsX7_carries (wsV RX7 210 RX7 yX7_setRevoked wsX7_setRevoked) := goodIn_app (goodIn_of _ (by decide +kernel)) ggX7_carries_X7_setRevoked
set_option maxRecDepth 20000 in
theorem ggX7_carries_X7_issueByRegistry : GoodIn wsX7_carries wsX7_issueByRegistry := goodIn_ca (goodIn_r _ [78, 7, 45, 46, 47, 5, 48, 11, 12, 13, 14, 15, 16, 17, 18, 19, 20, 21, 22, 23, 24, 25, 26, 79, 80, 81, 82, 31, 32, 33, 34, 35, 36, 37, 38, 39, 40, 126, 127, 128, 129, 130, 131, 132, 133, 134, 135, 136, 137, 138, 139, 140, 141, 142, 143, 144, 145, 146] (by decide +kernel) (by decide +kernel)) (goodIn_sub (fun _ h => List.mem_cons_of_mem _ (List.mem_append_right _ h)) (by decide +kernel))
set_option maxRecDepth 20000 in
theorem gX7_carries_X7_issueByRegistry : GoodIn wsX7_carries (wsV RX7 214 RX7 yX7_issueByRegistry wsX7_issueByRegistry) := goodIn_app (goodIn_of _ (by decide +kernel)) ggX7_carries_X7_issueByRegistry
set_option maxRecDepth 20000 in
theorem ggX7_carries_X7_issue : GoodIn wsX7_carries wsX7_issue := goodIn_ca (goodIn_r _ [86, 7, 45, 46, 47, 5, 48, 11, 12, 13, 14, 15, 16, 17, 18, 19, 20, 21, 22, 23, 24, 25, 26, 60, 61, 62, 63, 64, 65, 66, 67, 68, 69, 70, 71, 57, 58, 59, 79, 80, 81, 82, 31, 32, 33, 34, 35, 36, 37, 38, 39, 40, 126, 127, 128, 129, 130, 131, 132, 133, 134, 135, 136, 137, 138, 139, 140, 141, 142, 143, 144, 145, 146] (by decide +kernel) (by decide +kernel)) (goodIn_sub (fun _ h => List.mem_cons_of_mem _ (List.mem_append_right _ h)) (by decide +kernel))
set_option maxRecDepth 20000 in
theorem gX7_carries_X7_issue : GoodIn wsX7_carries (wsV RX7 217 RX7 yX7_issue wsX7_issue) := goodIn_app (goodIn_of _ (by decide +kernel)) ggX7_carries_X7_issue
set_option maxRecDepth 20000 in
theorem ggX7_carries_X7_withdraw : GoodIn wsX7_carries wsX7_withdraw := goodIn_ca (goodIn_r _ [90, 7, 91, 92, 93, 5, 94, 95, 96, 97, 98, 11, 12, 13, 14, 15, 16, 17, 18, 19, 68, 69, 70, 71, 31, 32, 33, 34, 35, 36, 37, 38, 39, 40, 99, 100, 101, 102, 126, 127, 128, 129, 130, 131, 132, 133, 134, 135, 136, 137, 138, 139, 140, 141, 142, 143, 144, 145, 146] (by decide +kernel) (by decide +kernel)) (goodIn_sub (fun _ h => List.mem_cons_of_mem _ (List.mem_append_right _ h)) (by decide +kernel))
set_option maxRecDepth 20000 in
theorem gX7_carries_X7_withdraw : GoodIn wsX7_carries (wsV RX7 220 RX7 yX7_withdraw wsX7_withdraw) := goodIn_app (goodIn_of _ (by decide +kernel)) ggX7_carries_X7_withdraw
set_option maxRecDepth 20000 in
theorem ggX7_carries_X7_sow : GoodIn wsX7_carries wsX7_sow := goodIn_ca (goodIn_r _ [106, 7, 8, 9, 5, 10, 11, 12, 13, 14, 15, 16, 17, 18, 19, 20, 21, 22, 23, 24, 25, 26, 31, 32, 33, 34, 35, 36, 37, 38, 39, 40, 126, 127, 128, 129, 130, 131, 132, 133, 134, 135, 136, 137, 138, 139, 140, 141, 142, 143, 144, 145, 146] (by decide +kernel) (by decide +kernel)) (goodIn_sub (fun _ h => List.mem_cons_of_mem _ (List.mem_append_right _ h)) (by decide +kernel))
set_option maxRecDepth 20000 in
theorem gX7_carries_X7_sow : GoodIn wsX7_carries (wsV RX7 223 RX7 yX7_sow wsX7_sow) := goodIn_app (goodIn_of _ (by decide +kernel)) ggX7_carries_X7_sow
set_option maxRecDepth 20000 in
theorem ggX7_carries_X7_pass : GoodIn wsX7_carries wsX7_pass := goodIn_ca (goodIn_r _ [110, 7, 11, 12, 5, 13, 14, 15, 16, 17, 18, 19, 31, 32, 33, 34, 35, 36, 37, 38, 39, 40, 111, 112, 113, 114, 115, 116, 117, 118, 68, 69, 70, 71, 99, 100, 101, 102, 119, 120, 121, 122, 60, 61, 62, 63, 64, 65, 66, 67, 57, 58, 59, 123, 124, 125, 126, 127, 128, 129, 130, 131, 132, 133, 134, 135, 136, 137, 138, 139, 140, 141, 142, 143, 144, 145, 146] (by decide +kernel) (by decide +kernel)) (goodIn_sub (fun _ h => List.mem_cons_of_mem _ (List.mem_append_right _ h)) (by decide +kernel))
set_option maxRecDepth 20000 in
theorem gX7_carries_X7_pass : GoodIn wsX7_carries (wsV RX7 226 RX7 yX7_pass wsX7_pass) := goodIn_app (goodIn_of _ (by decide +kernel)) ggX7_carries_X7_pass
theorem dX7_carries_0 : decode cX7_carries 0 = .ok (.aload_n 0, 1) := by decide +kernel
theorem dX7_carries_1 : decode cX7_carries 1 = .ok (.getfield 36, 3) := by decide +kernel
theorem dX7_carries_4 : decode cX7_carries 4 = .ok (.iload_n 1, 1) := by decide +kernel
theorem dX7_carries_5 : decode cX7_carries 5 = .ok (.iconst 1, 1) := by decide +kernel
theorem dX7_carries_6 : decode cX7_carries 6 = .ok (.iadd, 1) := by decide +kernel
theorem dX7_carries_7 : decode cX7_carries 7 = .ok (.iaload, 1) := by decide +kernel
theorem dX7_carries_8 : decode cX7_carries 8 = .ok (.istore_n 2, 1) := by decide +kernel
theorem dX7_carries_9 : decode cX7_carries 9 = .ok (.aload_n 0, 1) := by decide +kernel
theorem dX7_carries_10 : decode cX7_carries 10 = .ok (.getfield 36, 3) := by decide +kernel
theorem dX7_carries_13 : decode cX7_carries 13 = .ok (.iload_n 1, 1) := by decide +kernel
theorem dX7_carries_14 : decode cX7_carries 14 = .ok (.iconst 2, 1) := by decide +kernel
theorem dX7_carries_15 : decode cX7_carries 15 = .ok (.iadd, 1) := by decide +kernel
theorem dX7_carries_16 : decode cX7_carries 16 = .ok (.iaload, 1) := by decide +kernel
theorem dX7_carries_17 : decode cX7_carries 17 = .ok (.istore_n 3, 1) := by decide +kernel
theorem dX7_carries_18 : decode cX7_carries 18 = .ok (.aload_n 0, 1) := by decide +kernel
theorem dX7_carries_19 : decode cX7_carries 19 = .ok (.getfield 36, 3) := by decide +kernel
theorem dX7_carries_22 : decode cX7_carries 22 = .ok (.iload_n 1, 1) := by decide +kernel
theorem dX7_carries_23 : decode cX7_carries 23 = .ok (.iaload, 1) := by decide +kernel
theorem dX7_carries_24 : decode cX7_carries 24 = .ok (.tableswitch 110 0 7 #[48, 54, 61, 68, 75, 82, 97, 103], 48) := by decide +kernel
theorem dX7_carries_72 : decode cX7_carries 72 = .ok (.aload_n 0, 1) := by decide +kernel
theorem dX7_carries_73 : decode cX7_carries 73 = .ok (.iload_n 2, 1) := by decide +kernel
theorem dX7_carries_74 : decode cX7_carries 74 = .ok (.invokevirtual 204, 3) := by decide +kernel
theorem dX7_carries_77 : decode cX7_carries 77 = .ok (.ireturn, 1) := by decide +kernel
theorem dX7_carries_78 : decode cX7_carries 78 = .ok (.aload_n 0, 1) := by decide +kernel
theorem dX7_carries_79 : decode cX7_carries 79 = .ok (.iload_n 2, 1) := by decide +kernel
theorem dX7_carries_80 : decode cX7_carries 80 = .ok (.iload_n 3, 1) := by decide +kernel
theorem dX7_carries_81 : decode cX7_carries 81 = .ok (.invokevirtual 207, 3) := by decide +kernel
theorem dX7_carries_84 : decode cX7_carries 84 = .ok (.ireturn, 1) := by decide +kernel
theorem dX7_carries_85 : decode cX7_carries 85 = .ok (.aload_n 0, 1) := by decide +kernel
theorem dX7_carries_86 : decode cX7_carries 86 = .ok (.iload_n 2, 1) := by decide +kernel
theorem dX7_carries_87 : decode cX7_carries 87 = .ok (.iconst 1, 1) := by decide +kernel
theorem dX7_carries_88 : decode cX7_carries 88 = .ok (.invokevirtual 210, 3) := by decide +kernel
theorem dX7_carries_91 : decode cX7_carries 91 = .ok (.ireturn, 1) := by decide +kernel
theorem dX7_carries_92 : decode cX7_carries 92 = .ok (.aload_n 0, 1) := by decide +kernel
theorem dX7_carries_93 : decode cX7_carries 93 = .ok (.iload_n 2, 1) := by decide +kernel
theorem dX7_carries_94 : decode cX7_carries 94 = .ok (.iconst 0, 1) := by decide +kernel
theorem dX7_carries_95 : decode cX7_carries 95 = .ok (.invokevirtual 210, 3) := by decide +kernel
theorem dX7_carries_98 : decode cX7_carries 98 = .ok (.ireturn, 1) := by decide +kernel
theorem dX7_carries_99 : decode cX7_carries 99 = .ok (.aload_n 0, 1) := by decide +kernel
theorem dX7_carries_100 : decode cX7_carries 100 = .ok (.iload_n 2, 1) := by decide +kernel
theorem dX7_carries_101 : decode cX7_carries 101 = .ok (.iload_n 3, 1) := by decide +kernel
theorem dX7_carries_102 : decode cX7_carries 102 = .ok (.invokevirtual 214, 3) := by decide +kernel
theorem dX7_carries_105 : decode cX7_carries 105 = .ok (.ireturn, 1) := by decide +kernel
theorem dX7_carries_106 : decode cX7_carries 106 = .ok (.aload_n 0, 1) := by decide +kernel
theorem dX7_carries_107 : decode cX7_carries 107 = .ok (.iload_n 2, 1) := by decide +kernel
theorem dX7_carries_108 : decode cX7_carries 108 = .ok (.iload_n 3, 1) := by decide +kernel
theorem dX7_carries_109 : decode cX7_carries 109 = .ok (.aload_n 0, 1) := by decide +kernel
theorem dX7_carries_110 : decode cX7_carries 110 = .ok (.getfield 36, 3) := by decide +kernel
theorem dX7_carries_113 : decode cX7_carries 113 = .ok (.iload_n 1, 1) := by decide +kernel
theorem dX7_carries_114 : decode cX7_carries 114 = .ok (.iconst 3, 1) := by decide +kernel
theorem dX7_carries_115 : decode cX7_carries 115 = .ok (.iadd, 1) := by decide +kernel
theorem dX7_carries_116 : decode cX7_carries 116 = .ok (.iaload, 1) := by decide +kernel
theorem dX7_carries_117 : decode cX7_carries 117 = .ok (.invokevirtual 217, 3) := by decide +kernel
theorem dX7_carries_120 : decode cX7_carries 120 = .ok (.ireturn, 1) := by decide +kernel
theorem dX7_carries_121 : decode cX7_carries 121 = .ok (.aload_n 0, 1) := by decide +kernel
theorem dX7_carries_122 : decode cX7_carries 122 = .ok (.iload_n 2, 1) := by decide +kernel
theorem dX7_carries_123 : decode cX7_carries 123 = .ok (.invokevirtual 220, 3) := by decide +kernel
theorem dX7_carries_126 : decode cX7_carries 126 = .ok (.ireturn, 1) := by decide +kernel
theorem dX7_carries_127 : decode cX7_carries 127 = .ok (.aload_n 0, 1) := by decide +kernel
theorem dX7_carries_128 : decode cX7_carries 128 = .ok (.iload_n 2, 1) := by decide +kernel
theorem dX7_carries_129 : decode cX7_carries 129 = .ok (.iload_n 3, 1) := by decide +kernel
theorem dX7_carries_130 : decode cX7_carries 130 = .ok (.invokevirtual 223, 3) := by decide +kernel
theorem dX7_carries_133 : decode cX7_carries 133 = .ok (.ireturn, 1) := by decide +kernel
theorem dX7_carries_134 : decode cX7_carries 134 = .ok (.aload_n 0, 1) := by decide +kernel
theorem dX7_carries_135 : decode cX7_carries 135 = .ok (.iload_n 2, 1) := by decide +kernel
theorem dX7_carries_136 : decode cX7_carries 136 = .ok (.invokevirtual 226, 3) := by decide +kernel
theorem dX7_carries_139 : decode cX7_carries 139 = .ok (.ireturn, 1) := by decide +kernel
set_option maxRecDepth 20000 in
theorem ggX7_deniesText_X7_denies : GoodIn wsX7_deniesText wsX7_denies := goodIn_r _ [8, 9, 1, 2, 10, 3, 11, 12, 13, 14, 15, 16, 17, 18, 19, 20, 21, 22, 23, 24, 25, 26, 27, 28, 29, 30, 31] (by decide +kernel) (by decide +kernel)
set_option maxRecDepth 20000 in
theorem gX7_deniesText_X7_denies : GoodIn wsX7_deniesText (wsV RX7 79 RX7 yX7_denies wsX7_denies) := goodIn_app (goodIn_of _ (by decide +kernel)) ggX7_deniesText_X7_denies
theorem dX7_deniesText_0 : decode cX7_deniesText 0 = .ok (.aload_n 0, 1) := by decide +kernel
theorem dX7_deniesText_1 : decode cX7_deniesText 1 = .ok (.getfield 42, 3) := by decide +kernel
theorem dX7_deniesText_4 : decode cX7_deniesText 4 = .ok (.ifCond .eq 10, 3) := by decide +kernel
theorem dX7_deniesText_7 : decode cX7_deniesText 7 = .ok (.aload_n 0, 1) := by decide +kernel
theorem dX7_deniesText_8 : decode cX7_deniesText 8 = .ok (.getfield 46, 3) := by decide +kernel
theorem dX7_deniesText_11 : decode cX7_deniesText 11 = .ok (.goto 5, 3) := by decide +kernel
theorem dX7_deniesText_14 : decode cX7_deniesText 14 = .ok (.bipush 7, 2) := by decide +kernel
theorem dX7_deniesText_16 : decode cX7_deniesText 16 = .ok (.istore_n 2, 1) := by decide +kernel
theorem dX7_deniesText_17 : decode cX7_deniesText 17 = .ok (.aload_n 0, 1) := by decide +kernel
theorem dX7_deniesText_18 : decode cX7_deniesText 18 = .ok (.iconst 2, 1) := by decide +kernel
theorem dX7_deniesText_19 : decode cX7_deniesText 19 = .ok (.bipush 6, 2) := by decide +kernel
theorem dX7_deniesText_21 : decode cX7_deniesText 21 = .ok (.iload_n 1, 1) := by decide +kernel
theorem dX7_deniesText_22 : decode cX7_deniesText 22 = .ok (.invokevirtual 79, 3) := by decide +kernel
theorem dX7_deniesText_25 : decode cX7_deniesText 25 = .ok (.pop, 1) := by decide +kernel
theorem dX7_deniesText_26 : decode cX7_deniesText 26 = .ok (.aload_n 0, 1) := by decide +kernel
theorem dX7_deniesText_27 : decode cX7_deniesText 27 = .ok (.iload_n 2, 1) := by decide +kernel
theorem dX7_deniesText_28 : decode cX7_deniesText 28 = .ok (.putfield 52, 3) := by decide +kernel
theorem dX7_deniesText_31 : decode cX7_deniesText 31 = .ok (.iconst 0, 1) := by decide +kernel
theorem dX7_deniesText_32 : decode cX7_deniesText 32 = .ok (.ireturn, 1) := by decide +kernel
set_option maxRecDepth 20000 in
theorem ggX7_execute_X7_isText : GoodIn wsX7_execute wsX7_isText := goodIn_ca (goodIn_r _ [13, 1, 7, 3, 14, 15, 16, 12, 17, 18, 19, 20, 21, 22, 23, 24, 25, 26, 27, 28, 29, 30, 31, 32, 33, 34, 35, 36, 37, 38, 39, 40, 41, 42, 43, 44, 45, 46, 47, 48, 49, 50, 51, 52, 53, 54, 55, 56, 57, 58, 59, 60, 61, 62, 63, 64, 65, 66, 67, 68, 69, 70, 71, 72, 73, 74, 75, 76, 77, 78, 79, 80, 81, 82, 83, 84, 85, 86, 87, 88, 89, 90, 91, 217, 218, 219, 220, 221, 222, 223, 224, 225, 226, 227, 228, 229, 230, 231, 232, 233, 234, 235, 236, 237, 238, 239, 240, 241] (by decide +kernel) (by decide +kernel)) (goodIn_sub (fun _ h => List.mem_cons_of_mem _ (List.mem_append_right _ h)) (by decide +kernel))
set_option maxRecDepth 20000 in
theorem gX7_execute_X7_isText : GoodIn wsX7_execute (wsV RX7 229 RX7 yX7_isText wsX7_isText) := goodIn_app (goodIn_of _ (by decide +kernel)) ggX7_execute_X7_isText
set_option maxRecDepth 20000 in
theorem ggX7_execute_X7_fails : GoodIn wsX7_execute wsX7_fails := goodIn_r _ [95, 8, 96, 217, 218, 219, 220, 221, 222, 223, 224, 225, 226, 227, 228, 229, 230, 231, 232, 233, 234, 235, 236, 237] (by decide +kernel) (by decide +kernel)
set_option maxRecDepth 20000 in
theorem gX7_execute_X7_fails : GoodIn wsX7_execute (wsV RX7 73 RX7 yX7_fails wsX7_fails) := goodIn_app (goodIn_of _ (by decide +kernel)) ggX7_execute_X7_fails
set_option maxRecDepth 20000 in
theorem ggX7_execute_X7_copies : GoodIn wsX7_execute wsX7_copies := goodIn_ca (goodIn_r _ [99] (by decide +kernel) (by decide +kernel)) (goodIn_sub (fun _ h => List.mem_cons_of_mem _ (List.mem_append_right _ h)) (by decide +kernel))
set_option maxRecDepth 20000 in
theorem gX7_execute_X7_copies : GoodIn wsX7_execute (va_wsS RX7 61 yX7_copies wsX7_copies) := goodIn_app (goodIn_of _ (by decide +kernel)) ggX7_execute_X7_copies
set_option maxRecDepth 20000 in
theorem ggX7_execute_X7_carries : GoodIn wsX7_execute wsX7_carries := goodIn_ca (goodIn_r _ [103, 31, 104, 105, 106, 12, 107, 4, 108, 109, 110, 85, 86, 87, 92, 93, 94, 95, 8, 96, 111, 112, 113, 114, 115, 116, 117, 118, 119, 120, 121, 122, 123, 124, 125, 6, 126, 127, 97, 98, 99, 128, 129, 130, 131, 132, 133, 134, 135, 136, 137, 138, 139, 140, 141, 142, 143, 144, 145, 146, 147, 148, 149, 150, 151, 152, 153, 154, 155, 156, 157, 158, 159, 160, 161, 162, 163, 164, 165, 166, 167, 168, 169, 170, 171, 172, 173, 174, 175, 176, 177, 178, 179, 180, 181, 182, 183, 184, 185, 186, 187, 188, 189, 190, 191, 192, 193, 194, 195, 196, 197, 198, 199, 200, 201, 202, 203, 204, 205, 206, 207, 208, 209, 210, 211, 212, 217, 218, 219, 220, 221, 222, 223, 224, 225, 226, 227, 228, 229, 230, 231, 232, 233, 234, 235, 236, 237] (by decide +kernel) (by decide +kernel)) (goodIn_sub (fun _ h => List.mem_cons_of_mem _ (List.mem_append_right _ h)) (by decide +kernel))
set_option maxRecDepth 20000 in
theorem gX7_execute_X7_carries : GoodIn wsX7_execute (wsV RX7 232 RX7 yX7_carries wsX7_carries) := goodIn_app (goodIn_of _ (by decide +kernel)) ggX7_execute_X7_carries
set_option maxRecDepth 20000 in
theorem ggX7_execute_X7_deniesText : GoodIn wsX7_execute wsX7_deniesText := goodIn_r _ [216, 96, 115, 117, 111, 112, 113, 12, 114, 8, 116, 217, 218, 219, 220, 221, 222, 223, 224, 225, 226, 227, 228, 229, 230, 231, 232, 233, 234, 235, 236, 237] (by decide +kernel) (by decide +kernel)
set_option maxRecDepth 20000 in
theorem gX7_execute_X7_deniesText : GoodIn wsX7_execute (wsV RX7 235 RX7 yX7_deniesText wsX7_deniesText) := goodIn_app (goodIn_of _ (by decide +kernel)) ggX7_execute_X7_deniesText
set_option maxRecDepth 20000 in
theorem ggX7_execute_X7_keeps : GoodIn wsX7_execute wsX7_keeps := goodIn_ca (goodIn_r _ [125, 8, 6, 126, 127, 97, 98, 12, 99, 217, 218, 219, 220, 221, 222, 223, 224, 225, 226, 227, 228, 229, 230, 231, 232, 233, 234, 235, 236, 237] (by decide +kernel) (by decide +kernel)) (goodIn_sub (fun _ h => List.mem_cons_of_mem _ (List.mem_append_right _ h)) (by decide +kernel))
set_option maxRecDepth 20000 in
theorem gX7_execute_X7_keeps : GoodIn wsX7_execute (wsV RX7 87 RX7 yX7_keeps wsX7_keeps) := goodIn_app (goodIn_of _ (by decide +kernel)) ggX7_execute_X7_keeps
theorem dX7_execute_0 : decode cX7_execute 0 = .ok (.aload_n 0, 1) := by decide +kernel
theorem dX7_execute_1 : decode cX7_execute 1 = .ok (.invokevirtual 229, 3) := by decide +kernel
theorem dX7_execute_4 : decode cX7_execute 4 = .ok (.istore_n 1, 1) := by decide +kernel
theorem dX7_execute_5 : decode cX7_execute 5 = .ok (.iload_n 1, 1) := by decide +kernel
theorem dX7_execute_6 : decode cX7_execute 6 = .ok (.ifCond .ne 11, 3) := by decide +kernel
theorem dX7_execute_9 : decode cX7_execute 9 = .ok (.aload_n 0, 1) := by decide +kernel
theorem dX7_execute_10 : decode cX7_execute 10 = .ok (.aload_n 0, 1) := by decide +kernel
theorem dX7_execute_11 : decode cX7_execute 11 = .ok (.getfield 152, 3) := by decide +kernel
theorem dX7_execute_14 : decode cX7_execute 14 = .ok (.putfield 28, 3) := by decide +kernel
theorem dX7_execute_17 : decode cX7_execute 17 = .ok (.aload_n 0, 1) := by decide +kernel
theorem dX7_execute_18 : decode cX7_execute 18 = .ok (.iconst 0, 1) := by decide +kernel
theorem dX7_execute_19 : decode cX7_execute 19 = .ok (.putfield 149, 3) := by decide +kernel
theorem dX7_execute_22 : decode cX7_execute 22 = .ok (.aload_n 0, 1) := by decide +kernel
theorem dX7_execute_23 : decode cX7_execute 23 = .ok (.iload_n 1, 1) := by decide +kernel
theorem dX7_execute_24 : decode cX7_execute 24 = .ok (.ifCond .eq 7, 3) := by decide +kernel
theorem dX7_execute_27 : decode cX7_execute 27 = .ok (.iconst 0, 1) := by decide +kernel
theorem dX7_execute_28 : decode cX7_execute 28 = .ok (.goto 4, 3) := by decide +kernel
theorem dX7_execute_31 : decode cX7_execute 31 = .ok (.iconst 1, 1) := by decide +kernel
theorem dX7_execute_32 : decode cX7_execute 32 = .ok (.invokevirtual 73, 3) := by decide +kernel
theorem dX7_execute_35 : decode cX7_execute 35 = .ok (.ifCond .eq 5, 3) := by decide +kernel
theorem dX7_execute_38 : decode cX7_execute 38 = .ok (.iconst 0, 1) := by decide +kernel
theorem dX7_execute_39 : decode cX7_execute 39 = .ok (.ireturn, 1) := by decide +kernel
theorem dX7_execute_40 : decode cX7_execute 40 = .ok (.aload_n 0, 1) := by decide +kernel
theorem dX7_execute_41 : decode cX7_execute 41 = .ok (.getfield 7, 3) := by decide +kernel
theorem dX7_execute_44 : decode cX7_execute 44 = .ok (.iconst 0, 1) := by decide +kernel
theorem dX7_execute_45 : decode cX7_execute 45 = .ok (.aload_n 0, 1) := by decide +kernel
theorem dX7_execute_46 : decode cX7_execute 46 = .ok (.getfield 19, 3) := by decide +kernel
theorem dX7_execute_49 : decode cX7_execute 49 = .ok (.iconst 0, 1) := by decide +kernel
theorem dX7_execute_50 : decode cX7_execute 50 = .ok (.invokestatic 61, 3) := by decide +kernel
theorem dX7_execute_53 : decode cX7_execute 53 = .ok (.aload_n 0, 1) := by decide +kernel
theorem dX7_execute_54 : decode cX7_execute 54 = .ok (.iconst 1, 1) := by decide +kernel
theorem dX7_execute_55 : decode cX7_execute 55 = .ok (.putfield 55, 3) := by decide +kernel
theorem dX7_execute_58 : decode cX7_execute 58 = .ok (.iconst 0, 1) := by decide +kernel
theorem dX7_execute_59 : decode cX7_execute 59 = .ok (.istore_n 2, 1) := by decide +kernel
theorem dX7_execute_60 : decode cX7_execute 60 = .ok (.iconst 0, 1) := by decide +kernel
theorem dX7_execute_61 : decode cX7_execute 61 = .ok (.istore_n 3, 1) := by decide +kernel
theorem dX7_execute_62 : decode cX7_execute 62 = .ok (.iload_n 2, 1) := by decide +kernel
theorem dX7_execute_63 : decode cX7_execute 63 = .ok (.aload_n 0, 1) := by decide +kernel
theorem dX7_execute_64 : decode cX7_execute 64 = .ok (.getfield 158, 3) := by decide +kernel
theorem dX7_execute_67 : decode cX7_execute 67 = .ok (.if_icmp .ge 31, 3) := by decide +kernel
theorem dX7_execute_70 : decode cX7_execute 70 = .ok (.aload_n 0, 1) := by decide +kernel
theorem dX7_execute_71 : decode cX7_execute 71 = .ok (.getfield 39, 3) := by decide +kernel
theorem dX7_execute_74 : decode cX7_execute 74 = .ok (.ifCond .ne 24, 3) := by decide +kernel
theorem dX7_execute_77 : decode cX7_execute 77 = .ok (.aload_n 0, 1) := by decide +kernel
theorem dX7_execute_78 : decode cX7_execute 78 = .ok (.iconst 4, 1) := by decide +kernel
theorem dX7_execute_79 : decode cX7_execute 79 = .ok (.iload_n 2, 1) := by decide +kernel
theorem dX7_execute_80 : decode cX7_execute 80 = .ok (.imul, 1) := by decide +kernel
theorem dX7_execute_81 : decode cX7_execute 81 = .ok (.invokevirtual 232, 3) := by decide +kernel
theorem dX7_execute_84 : decode cX7_execute 84 = .ok (.istore_n 3, 1) := by decide +kernel
theorem dX7_execute_85 : decode cX7_execute 85 = .ok (.aload_n 0, 1) := by decide +kernel
theorem dX7_execute_86 : decode cX7_execute 86 = .ok (.getfield 39, 3) := by decide +kernel
theorem dX7_execute_89 : decode cX7_execute 89 = .ok (.ifCond .ne (-27), 3) := by decide +kernel
theorem dX7_execute_92 : decode cX7_execute 92 = .ok (.iinc 2 1, 3) := by decide +kernel
theorem dX7_execute_95 : decode cX7_execute 95 = .ok (.goto (-33), 3) := by decide +kernel
theorem dX7_execute_98 : decode cX7_execute 98 = .ok (.aload_n 0, 1) := by decide +kernel
theorem dX7_execute_99 : decode cX7_execute 99 = .ok (.iconst 0, 1) := by decide +kernel
theorem dX7_execute_100 : decode cX7_execute 100 = .ok (.putfield 55, 3) := by decide +kernel
theorem dX7_execute_103 : decode cX7_execute 103 = .ok (.aload_n 0, 1) := by decide +kernel
theorem dX7_execute_104 : decode cX7_execute 104 = .ok (.getfield 39, 3) := by decide +kernel
theorem dX7_execute_107 : decode cX7_execute 107 = .ok (.ifCond .le 32, 3) := by decide +kernel
theorem dX7_execute_110 : decode cX7_execute 110 = .ok (.aload_n 0, 1) := by decide +kernel
theorem dX7_execute_111 : decode cX7_execute 111 = .ok (.getfield 19, 3) := by decide +kernel
theorem dX7_execute_114 : decode cX7_execute 114 = .ok (.iconst 0, 1) := by decide +kernel
theorem dX7_execute_115 : decode cX7_execute 115 = .ok (.aload_n 0, 1) := by decide +kernel
theorem dX7_execute_116 : decode cX7_execute 116 = .ok (.getfield 7, 3) := by decide +kernel
theorem dX7_execute_119 : decode cX7_execute 119 = .ok (.iconst 0, 1) := by decide +kernel
theorem dX7_execute_120 : decode cX7_execute 120 = .ok (.invokestatic 61, 3) := by decide +kernel
theorem dX7_execute_123 : decode cX7_execute 123 = .ok (.aload_n 0, 1) := by decide +kernel
theorem dX7_execute_124 : decode cX7_execute 124 = .ok (.iload_n 2, 1) := by decide +kernel
theorem dX7_execute_125 : decode cX7_execute 125 = .ok (.invokevirtual 235, 3) := by decide +kernel
theorem dX7_execute_128 : decode cX7_execute 128 = .ok (.iload_n 3, 1) := by decide +kernel
theorem dX7_execute_129 : decode cX7_execute 129 = .ok (.ifCond .le 7, 3) := by decide +kernel
theorem dX7_execute_132 : decode cX7_execute 132 = .ok (.iconst 0, 1) := by decide +kernel
theorem dX7_execute_133 : decode cX7_execute 133 = .ok (.goto 4, 3) := by decide +kernel
theorem dX7_execute_136 : decode cX7_execute 136 = .ok (.iload_n 3, 1) := by decide +kernel
theorem dX7_execute_137 : decode cX7_execute 137 = .ok (.iadd, 1) := by decide +kernel
theorem dX7_execute_138 : decode cX7_execute 138 = .ok (.ireturn, 1) := by decide +kernel
theorem dX7_execute_139 : decode cX7_execute 139 = .ok (.aload_n 0, 1) := by decide +kernel
theorem dX7_execute_140 : decode cX7_execute 140 = .ok (.aload_n 0, 1) := by decide +kernel
theorem dX7_execute_141 : decode cX7_execute 141 = .ok (.getfield 19, 3) := by decide +kernel
theorem dX7_execute_144 : decode cX7_execute 144 = .ok (.invokevirtual 87, 3) := by decide +kernel
theorem dX7_execute_147 : decode cX7_execute 147 = .ok (.aload_n 0, 1) := by decide +kernel
theorem dX7_execute_148 : decode cX7_execute 148 = .ok (.getfield 158, 3) := by decide +kernel
theorem dX7_execute_151 : decode cX7_execute 151 = .ok (.ireturn, 1) := by decide +kernel
set_option maxRecDepth 20000 in
theorem ggX7_faultPosition_X7_fails : GoodIn wsX7_faultPosition wsX7_fails := goodIn_r _ [6, 7, 8, 9, 10, 11, 12, 13, 14, 15, 16, 17, 18, 19, 20, 21, 22, 23, 24, 25, 26, 27, 28, 29] (by decide +kernel) (by decide +kernel)
set_option maxRecDepth 20000 in
theorem gX7_faultPosition_X7_fails : GoodIn wsX7_faultPosition (wsV RX7 73 RX7 yX7_fails wsX7_fails) := goodIn_app (goodIn_of _ (by decide +kernel)) ggX7_faultPosition_X7_fails
theorem dX7_faultPosition_0 : decode cX7_faultPosition 0 = .ok (.aload_n 0, 1) := by decide +kernel
theorem dX7_faultPosition_1 : decode cX7_faultPosition 1 = .ok (.aload_n 0, 1) := by decide +kernel
theorem dX7_faultPosition_2 : decode cX7_faultPosition 2 = .ok (.getfield 28, 3) := by decide +kernel
theorem dX7_faultPosition_5 : decode cX7_faultPosition 5 = .ok (.ifCond .ge 7, 3) := by decide +kernel
theorem dX7_faultPosition_8 : decode cX7_faultPosition 8 = .ok (.iconst 1, 1) := by decide +kernel
theorem dX7_faultPosition_9 : decode cX7_faultPosition 9 = .ok (.goto 4, 3) := by decide +kernel
theorem dX7_faultPosition_12 : decode cX7_faultPosition 12 = .ok (.iconst 0, 1) := by decide +kernel
theorem dX7_faultPosition_13 : decode cX7_faultPosition 13 = .ok (.invokevirtual 73, 3) := by decide +kernel
theorem dX7_faultPosition_16 : decode cX7_faultPosition 16 = .ok (.ifCond .eq 7, 3) := by decide +kernel
theorem dX7_faultPosition_19 : decode cX7_faultPosition 19 = .ok (.iconst 0, 1) := by decide +kernel
theorem dX7_faultPosition_20 : decode cX7_faultPosition 20 = .ok (.goto 7, 3) := by decide +kernel
theorem dX7_faultPosition_23 : decode cX7_faultPosition 23 = .ok (.aload_n 0, 1) := by decide +kernel
theorem dX7_faultPosition_24 : decode cX7_faultPosition 24 = .ok (.getfield 28, 3) := by decide +kernel
theorem dX7_faultPosition_27 : decode cX7_faultPosition 27 = .ok (.ireturn, 1) := by decide +kernel
theorem dX7_writes_0 : decode cX7_writes 0 = .ok (.aload_n 0, 1) := by decide +kernel
theorem dX7_writes_1 : decode cX7_writes 1 = .ok (.getfield 32, 3) := by decide +kernel
theorem dX7_writes_4 : decode cX7_writes 4 = .ok (.aload_n 0, 1) := by decide +kernel
theorem dX7_writes_5 : decode cX7_writes 5 = .ok (.getfield 238, 3) := by decide +kernel
theorem dX7_writes_8 : decode cX7_writes 8 = .ok (.iload_n 1, 1) := by decide +kernel
theorem dX7_writes_9 : decode cX7_writes 9 = .ok (.i2c, 1) := by decide +kernel
theorem dX7_writes_10 : decode cX7_writes 10 = .ok (.castore, 1) := by decide +kernel
theorem dX7_writes_11 : decode cX7_writes 11 = .ok (.aload_n 0, 1) := by decide +kernel
theorem dX7_writes_12 : decode cX7_writes 12 = .ok (.dup, 1) := by decide +kernel
theorem dX7_writes_13 : decode cX7_writes 13 = .ok (.getfield 238, 3) := by decide +kernel
theorem dX7_writes_16 : decode cX7_writes 16 = .ok (.iconst 1, 1) := by decide +kernel
theorem dX7_writes_17 : decode cX7_writes 17 = .ok (.iadd, 1) := by decide +kernel
theorem dX7_writes_18 : decode cX7_writes 18 = .ok (.putfield 238, 3) := by decide +kernel
theorem dX7_writes_21 : decode cX7_writes 21 = .ok (.return_, 1) := by decide +kernel
set_option maxRecDepth 20000 in
theorem ggX7_writesNumber_X7_writesNumber : GoodIn wsX7_writesNumber wsX7_writesNumber := goodIn_ca (goodIn_r _ [0, 1, 2, 3, 4, 5, 6, 7, 8, 9, 10, 11, 12, 13, 14, 15, 16, 17, 18, 19, 20, 21, 22, 23, 24, 25, 26, 27, 28, 29, 30, 31] (by decide +kernel) (by decide +kernel)) (goodIn_sub (fun _ h => List.mem_cons_of_mem _ (List.mem_append_right _ h)) (by decide +kernel))
set_option maxRecDepth 20000 in
theorem gX7_writesNumber_X7_writesNumber : GoodIn wsX7_writesNumber (wsV RX7 241 RX7 yX7_writesNumber wsX7_writesNumber) := goodIn_app (goodIn_of _ (by decide +kernel)) ggX7_writesNumber_X7_writesNumber
set_option maxRecDepth 20000 in
theorem ggX7_writesNumber_X7_writes : GoodIn wsX7_writesNumber wsX7_writes := goodIn_ca (goodIn_r _ [8, 9, 10, 11, 12, 13, 14, 15, 16, 17, 18, 19, 20, 21, 22, 23, 24, 25, 26, 27, 28, 29, 30, 31] (by decide +kernel) (by decide +kernel)) (goodIn_sub (fun _ h => List.mem_cons_of_mem _ (List.mem_append_right _ h)) (by decide +kernel))
set_option maxRecDepth 20000 in
theorem gX7_writesNumber_X7_writes : GoodIn wsX7_writesNumber (wsV RX7 244 RX7 yX7_writes wsX7_writes) := goodIn_app (goodIn_of _ (by decide +kernel)) ggX7_writesNumber_X7_writes
theorem dX7_writesNumber_0 : decode cX7_writesNumber 0 = .ok (.iload_n 1, 1) := by decide +kernel
theorem dX7_writesNumber_1 : decode cX7_writesNumber 1 = .ok (.bipush 9, 2) := by decide +kernel
theorem dX7_writesNumber_3 : decode cX7_writesNumber 3 = .ok (.if_icmp .le 11, 3) := by decide +kernel
theorem dX7_writesNumber_6 : decode cX7_writesNumber 6 = .ok (.aload_n 0, 1) := by decide +kernel
theorem dX7_writesNumber_7 : decode cX7_writesNumber 7 = .ok (.iload_n 1, 1) := by decide +kernel
theorem dX7_writesNumber_8 : decode cX7_writesNumber 8 = .ok (.bipush 10, 2) := by decide +kernel
theorem dX7_writesNumber_10 : decode cX7_writesNumber 10 = .ok (.idiv, 1) := by decide +kernel
theorem dX7_writesNumber_11 : decode cX7_writesNumber 11 = .ok (.invokevirtual 241, 3) := by decide +kernel
theorem dX7_writesNumber_14 : decode cX7_writesNumber 14 = .ok (.aload_n 0, 1) := by decide +kernel
theorem dX7_writesNumber_15 : decode cX7_writesNumber 15 = .ok (.bipush 48, 2) := by decide +kernel
theorem dX7_writesNumber_17 : decode cX7_writesNumber 17 = .ok (.iload_n 1, 1) := by decide +kernel
theorem dX7_writesNumber_18 : decode cX7_writesNumber 18 = .ok (.bipush 10, 2) := by decide +kernel
theorem dX7_writesNumber_20 : decode cX7_writesNumber 20 = .ok (.irem, 1) := by decide +kernel
theorem dX7_writesNumber_21 : decode cX7_writesNumber 21 = .ok (.iadd, 1) := by decide +kernel
theorem dX7_writesNumber_22 : decode cX7_writesNumber 22 = .ok (.invokevirtual 244, 3) := by decide +kernel
theorem dX7_writesNumber_25 : decode cX7_writesNumber 25 = .ok (.return_, 1) := by decide +kernel
set_option maxRecDepth 20000 in
theorem ggX7_writesBehind_X7_writes : GoodIn wsX7_writesBehind wsX7_writes := goodIn_ca (goodIn_r _ [5, 6, 7, 12, 13, 14, 15, 16, 17, 18, 19, 20, 21, 22, 23, 24, 25, 26, 27, 28, 29, 30, 31, 32] (by decide +kernel) (by decide +kernel)) (goodIn_sub (fun _ h => List.mem_cons_of_mem _ (List.mem_append_right _ h)) (by decide +kernel))
set_option maxRecDepth 20000 in
theorem gX7_writesBehind_X7_writes : GoodIn wsX7_writesBehind (wsV RX7 244 RX7 yX7_writes wsX7_writes) := goodIn_app (goodIn_of _ (by decide +kernel)) ggX7_writesBehind_X7_writes
set_option maxRecDepth 20000 in
theorem ggX7_writesBehind_X7_writesNumber : GoodIn wsX7_writesBehind wsX7_writesNumber := goodIn_ca (goodIn_r _ [11, 8, 9, 10, 4, 1, 2, 3, 5, 6, 7, 12, 13, 14, 15, 16, 17, 18, 19, 20, 21, 22, 23, 24, 25, 26, 27, 28, 29, 30, 31, 32] (by decide +kernel) (by decide +kernel)) (goodIn_sub (fun _ h => List.mem_cons_of_mem _ (List.mem_append_right _ h)) (by decide +kernel))
set_option maxRecDepth 20000 in
theorem gX7_writesBehind_X7_writesNumber : GoodIn wsX7_writesBehind (wsV RX7 241 RX7 yX7_writesNumber wsX7_writesNumber) := goodIn_app (goodIn_of _ (by decide +kernel)) ggX7_writesBehind_X7_writesNumber
theorem dX7_writesBehind_0 : decode cX7_writesBehind 0 = .ok (.aload_n 0, 1) := by decide +kernel
theorem dX7_writesBehind_1 : decode cX7_writesBehind 1 = .ok (.iload_n 1, 1) := by decide +kernel
theorem dX7_writesBehind_2 : decode cX7_writesBehind 2 = .ok (.invokevirtual 244, 3) := by decide +kernel
theorem dX7_writesBehind_5 : decode cX7_writesBehind 5 = .ok (.aload_n 0, 1) := by decide +kernel
theorem dX7_writesBehind_6 : decode cX7_writesBehind 6 = .ok (.iload_n 2, 1) := by decide +kernel
theorem dX7_writesBehind_7 : decode cX7_writesBehind 7 = .ok (.invokevirtual 241, 3) := by decide +kernel
theorem dX7_writesBehind_10 : decode cX7_writesBehind 10 = .ok (.return_, 1) := by decide +kernel
set_option maxRecDepth 20000 in
theorem ggX7_writeCertificate_X7_isLost : GoodIn wsX7_writeCertificate wsX7_isLost := goodIn_ca (goodIn_r _ [6, 7, 8, 9, 5, 10, 11, 12, 13, 14, 15, 16, 17, 18, 19, 20, 53, 54, 55, 56, 57, 58, 59, 60, 61, 62, 63, 64, 65, 66, 67, 68, 69, 70, 71, 72, 73] (by decide +kernel) (by decide +kernel)) (goodIn_sub (fun _ h => List.mem_cons_of_mem _ (List.mem_append_right _ h)) (by decide +kernel))
set_option maxRecDepth 20000 in
theorem gX7_writeCertificate_X7_isLost : GoodIn wsX7_writeCertificate (wsV RX7 126 RX7 yX7_isLost wsX7_isLost) := goodIn_app (goodIn_of _ (by decide +kernel)) ggX7_writeCertificate_X7_isLost
set_option maxRecDepth 20000 in
theorem ggX7_writeCertificate_X7_of : GoodIn wsX7_writeCertificate wsX7_of := goodIn_ca (goodIn_r _ [24, 11, 53, 54, 55, 56, 57, 58, 59, 60, 61, 62, 63, 64, 65, 66, 67, 68, 69, 70, 71, 72, 73] (by decide +kernel) (by decide +kernel)) (goodIn_sub (fun _ h => List.mem_cons_of_mem _ (List.mem_append_right _ h)) (by decide +kernel))
set_option maxRecDepth 20000 in
theorem gX7_writeCertificate_X7_of : GoodIn wsX7_writeCertificate (wsV RX7 107 RX7 yX7_of wsX7_of) := goodIn_app (goodIn_of _ (by decide +kernel)) ggX7_writeCertificate_X7_of
set_option maxRecDepth 20000 in
theorem ggX7_writeCertificate_X7_writes : GoodIn wsX7_writeCertificate wsX7_writes := goodIn_ca (goodIn_r _ [28, 29, 1, 53, 54, 55, 56, 57, 58, 59, 60, 61, 62, 63, 64, 65, 66, 67, 68, 69, 70, 71, 72, 73] (by decide +kernel) (by decide +kernel)) (goodIn_sub (fun _ h => List.mem_cons_of_mem _ (List.mem_append_right _ h)) (by decide +kernel))
set_option maxRecDepth 20000 in
theorem gX7_writeCertificate_X7_writes : GoodIn wsX7_writeCertificate (wsV RX7 244 RX7 yX7_writes wsX7_writes) := goodIn_app (goodIn_of _ (by decide +kernel)) ggX7_writeCertificate_X7_writes
set_option maxRecDepth 20000 in
theorem ggX7_writeCertificate_X7_writesBehind : GoodIn wsX7_writeCertificate wsX7_writesBehind := goodIn_ca (goodIn_r _ [33, 25, 26, 27, 5, 28, 29, 1, 34, 35, 36, 37, 53, 54, 55, 56, 57, 58, 59, 60, 61, 62, 63, 64, 65, 66, 67, 68, 69, 70, 71, 72, 73] (by decide +kernel) (by decide +kernel)) (goodIn_sub (fun _ h => List.mem_cons_of_mem _ (List.mem_append_right _ h)) (by decide +kernel))
set_option maxRecDepth 20000 in
theorem gX7_writeCertificate_X7_writesBehind : GoodIn wsX7_writeCertificate (wsV RX7 247 RX7 yX7_writesBehind wsX7_writesBehind) := goodIn_app (goodIn_of _ (by decide +kernel)) ggX7_writeCertificate_X7_writesBehind
set_option maxRecDepth 20000 in
theorem ggX7_writeCertificate_X7_isValid : GoodIn wsX7_writeCertificate wsX7_isValid := goodIn_ca (goodIn_r _ [41, 11, 42, 43, 44, 5, 45, 46, 47, 48, 49, 21, 22, 23, 24, 50, 51, 52, 53, 54, 55, 56, 57, 58, 59, 60, 61, 62, 63, 64, 65, 66, 67, 68, 69, 70, 71, 72, 73] (by decide +kernel) (by decide +kernel)) (goodIn_sub (fun _ h => List.mem_cons_of_mem _ (List.mem_append_right _ h)) (by decide +kernel))
set_option maxRecDepth 20000 in
theorem gX7_writeCertificate_X7_isValid : GoodIn wsX7_writeCertificate (wsV RX7 117 RX7 yX7_isValid wsX7_isValid) := goodIn_app (goodIn_of _ (by decide +kernel)) ggX7_writeCertificate_X7_isValid
theorem dX7_writeCertificate_0 : decode cX7_writeCertificate 0 = .ok (.aload_n 0, 1) := by decide +kernel
theorem dX7_writeCertificate_1 : decode cX7_writeCertificate 1 = .ok (.iload_n 1, 1) := by decide +kernel
theorem dX7_writeCertificate_2 : decode cX7_writeCertificate 2 = .ok (.invokevirtual 126, 3) := by decide +kernel
theorem dX7_writeCertificate_5 : decode cX7_writeCertificate 5 = .ok (.ifCond .eq 5, 3) := by decide +kernel
theorem dX7_writeCertificate_8 : decode cX7_writeCertificate 8 = .ok (.iconst 0, 1) := by decide +kernel
theorem dX7_writeCertificate_9 : decode cX7_writeCertificate 9 = .ok (.ireturn, 1) := by decide +kernel
theorem dX7_writeCertificate_10 : decode cX7_writeCertificate 10 = .ok (.aload_n 0, 1) := by decide +kernel
theorem dX7_writeCertificate_11 : decode cX7_writeCertificate 11 = .ok (.iconst 0, 1) := by decide +kernel
theorem dX7_writeCertificate_12 : decode cX7_writeCertificate 12 = .ok (.putfield 238, 3) := by decide +kernel
theorem dX7_writeCertificate_15 : decode cX7_writeCertificate 15 = .ok (.aload_n 0, 1) := by decide +kernel
theorem dX7_writeCertificate_16 : decode cX7_writeCertificate 16 = .ok (.aload_n 0, 1) := by decide +kernel
theorem dX7_writeCertificate_17 : decode cX7_writeCertificate 17 = .ok (.iload_n 1, 1) := by decide +kernel
theorem dX7_writeCertificate_18 : decode cX7_writeCertificate 18 = .ok (.iconst 0, 1) := by decide +kernel
theorem dX7_writeCertificate_19 : decode cX7_writeCertificate 19 = .ok (.invokevirtual 107, 3) := by decide +kernel
theorem dX7_writeCertificate_22 : decode cX7_writeCertificate 22 = .ok (.ifCond .ge 8, 3) := by decide +kernel
theorem dX7_writeCertificate_25 : decode cX7_writeCertificate 25 = .ok (.bipush 82, 2) := by decide +kernel
theorem dX7_writeCertificate_27 : decode cX7_writeCertificate 27 = .ok (.goto 12, 3) := by decide +kernel
theorem dX7_writeCertificate_30 : decode cX7_writeCertificate 30 = .ok (.bipush 48, 2) := by decide +kernel
theorem dX7_writeCertificate_32 : decode cX7_writeCertificate 32 = .ok (.aload_n 0, 1) := by decide +kernel
theorem dX7_writeCertificate_33 : decode cX7_writeCertificate 33 = .ok (.iload_n 1, 1) := by decide +kernel
theorem dX7_writeCertificate_34 : decode cX7_writeCertificate 34 = .ok (.iconst 0, 1) := by decide +kernel
theorem dX7_writeCertificate_35 : decode cX7_writeCertificate 35 = .ok (.invokevirtual 107, 3) := by decide +kernel
theorem dX7_writeCertificate_38 : decode cX7_writeCertificate 38 = .ok (.iadd, 1) := by decide +kernel
theorem dX7_writeCertificate_39 : decode cX7_writeCertificate 39 = .ok (.invokevirtual 244, 3) := by decide +kernel
theorem dX7_writeCertificate_42 : decode cX7_writeCertificate 42 = .ok (.aload_n 0, 1) := by decide +kernel
theorem dX7_writeCertificate_43 : decode cX7_writeCertificate 43 = .ok (.bipush 62, 2) := by decide +kernel
theorem dX7_writeCertificate_45 : decode cX7_writeCertificate 45 = .ok (.aload_n 0, 1) := by decide +kernel
theorem dX7_writeCertificate_46 : decode cX7_writeCertificate 46 = .ok (.iload_n 1, 1) := by decide +kernel
theorem dX7_writeCertificate_47 : decode cX7_writeCertificate 47 = .ok (.iconst 1, 1) := by decide +kernel
theorem dX7_writeCertificate_48 : decode cX7_writeCertificate 48 = .ok (.invokevirtual 107, 3) := by decide +kernel
theorem dX7_writeCertificate_51 : decode cX7_writeCertificate 51 = .ok (.invokevirtual 247, 3) := by decide +kernel
theorem dX7_writeCertificate_54 : decode cX7_writeCertificate 54 = .ok (.aload_n 0, 1) := by decide +kernel
theorem dX7_writeCertificate_55 : decode cX7_writeCertificate 55 = .ok (.bipush 64, 2) := by decide +kernel
theorem dX7_writeCertificate_57 : decode cX7_writeCertificate 57 = .ok (.aload_n 0, 1) := by decide +kernel
theorem dX7_writeCertificate_58 : decode cX7_writeCertificate 58 = .ok (.iload_n 1, 1) := by decide +kernel
theorem dX7_writeCertificate_59 : decode cX7_writeCertificate 59 = .ok (.iconst 2, 1) := by decide +kernel
theorem dX7_writeCertificate_60 : decode cX7_writeCertificate 60 = .ok (.invokevirtual 107, 3) := by decide +kernel
theorem dX7_writeCertificate_63 : decode cX7_writeCertificate 63 = .ok (.invokevirtual 247, 3) := by decide +kernel
theorem dX7_writeCertificate_66 : decode cX7_writeCertificate 66 = .ok (.aload_n 0, 1) := by decide +kernel
theorem dX7_writeCertificate_67 : decode cX7_writeCertificate 67 = .ok (.bipush 60, 2) := by decide +kernel
theorem dX7_writeCertificate_69 : decode cX7_writeCertificate 69 = .ok (.aload_n 0, 1) := by decide +kernel
theorem dX7_writeCertificate_70 : decode cX7_writeCertificate 70 = .ok (.iload_n 1, 1) := by decide +kernel
theorem dX7_writeCertificate_71 : decode cX7_writeCertificate 71 = .ok (.iconst 3, 1) := by decide +kernel
theorem dX7_writeCertificate_72 : decode cX7_writeCertificate 72 = .ok (.invokevirtual 107, 3) := by decide +kernel
theorem dX7_writeCertificate_75 : decode cX7_writeCertificate 75 = .ok (.invokevirtual 247, 3) := by decide +kernel
theorem dX7_writeCertificate_78 : decode cX7_writeCertificate 78 = .ok (.aload_n 0, 1) := by decide +kernel
theorem dX7_writeCertificate_79 : decode cX7_writeCertificate 79 = .ok (.iload_n 1, 1) := by decide +kernel
theorem dX7_writeCertificate_80 : decode cX7_writeCertificate 80 = .ok (.invokevirtual 117, 3) := by decide +kernel
theorem dX7_writeCertificate_83 : decode cX7_writeCertificate 83 = .ok (.ifCond .eq 9, 3) := by decide +kernel
theorem dX7_writeCertificate_86 : decode cX7_writeCertificate 86 = .ok (.aload_n 0, 1) := by decide +kernel
theorem dX7_writeCertificate_87 : decode cX7_writeCertificate 87 = .ok (.bipush 33, 2) := by decide +kernel
theorem dX7_writeCertificate_89 : decode cX7_writeCertificate 89 = .ok (.invokevirtual 244, 3) := by decide +kernel
theorem dX7_writeCertificate_92 : decode cX7_writeCertificate 92 = .ok (.aload_n 0, 1) := by decide +kernel
theorem dX7_writeCertificate_93 : decode cX7_writeCertificate 93 = .ok (.getfield 238, 3) := by decide +kernel
theorem dX7_writeCertificate_96 : decode cX7_writeCertificate 96 = .ok (.ireturn, 1) := by decide +kernel
set_option maxRecDepth 20000 in
theorem ggX7_writeFields_X7_guards : GoodIn wsX7_writeFields wsX7_guards := goodIn_ca (goodIn_r _ [8, 2, 9, 10, 11, 7, 12, 13, 14, 15, 16, 17, 18, 19, 20, 21, 22, 23, 24, 25, 26, 36, 37, 38, 39, 40, 41, 42, 43, 44, 45, 46, 47, 48, 49, 50, 51, 52, 53, 54, 55, 56] (by decide +kernel) (by decide +kernel)) (goodIn_sub (fun _ h => List.mem_cons_of_mem _ (List.mem_append_right _ h)) (by decide +kernel))
set_option maxRecDepth 20000 in
theorem gX7_writeFields_X7_guards : GoodIn wsX7_writeFields (wsV RX7 140 RX7 yX7_guards wsX7_guards) := goodIn_app (goodIn_of _ (by decide +kernel)) ggX7_writeFields_X7_guards
set_option maxRecDepth 20000 in
theorem ggX7_writeFields_X7_certified : GoodIn wsX7_writeFields wsX7_certified := goodIn_ca (goodIn_r _ [12, 2, 13, 14, 15, 7, 16, 17, 18, 19, 20, 21, 22, 23, 36, 37, 38, 39, 40, 41, 42, 43, 44, 45, 46, 47, 48, 49, 50, 51, 52, 53, 54, 55, 56] (by decide +kernel) (by decide +kernel)) (goodIn_sub (fun _ h => List.mem_cons_of_mem _ (List.mem_append_right _ h)) (by decide +kernel))
set_option maxRecDepth 20000 in
theorem gX7_writeFields_X7_certified : GoodIn wsX7_writeFields (wsV RX7 98 RX7 yX7_certified wsX7_certified) := goodIn_app (goodIn_of _ (by decide +kernel)) ggX7_writeFields_X7_certified
set_option maxRecDepth 20000 in
theorem ggX7_writeFields_X7_writes : GoodIn wsX7_writeFields wsX7_writes := goodIn_ca (goodIn_r _ [30, 31, 3, 36, 37, 38, 39, 40, 41, 42, 43, 44, 45, 46, 47, 48, 49, 50, 51, 52, 53, 54, 55, 56] (by decide +kernel) (by decide +kernel)) (goodIn_sub (fun _ h => List.mem_cons_of_mem _ (List.mem_append_right _ h)) (by decide +kernel))
set_option maxRecDepth 20000 in
theorem gX7_writeFields_X7_writes : GoodIn wsX7_writeFields (wsV RX7 244 RX7 yX7_writes wsX7_writes) := goodIn_app (goodIn_of _ (by decide +kernel)) ggX7_writeFields_X7_writes
set_option maxRecDepth 20000 in
theorem ggX7_writeFields_X7_standing : GoodIn wsX7_writeFields wsX7_standing := goodIn_ca (goodIn_r _ [35, 2, 36, 37, 38, 39, 40, 41, 42, 43, 44, 45, 46, 47, 48, 49, 50, 51, 52, 53, 54, 55, 56] (by decide +kernel) (by decide +kernel)) (goodIn_sub (fun _ h => List.mem_cons_of_mem _ (List.mem_append_right _ h)) (by decide +kernel))
set_option maxRecDepth 20000 in
theorem gX7_writeFields_X7_standing : GoodIn wsX7_writeFields (wsV RX7 83 RX7 yX7_standing wsX7_standing) := goodIn_app (goodIn_of _ (by decide +kernel)) ggX7_writeFields_X7_standing
set_option maxRecDepth 20000 in
theorem ggX7_writeFields_X7_has : GoodIn wsX7_writeFields wsX7_has := goodIn_r _ [23] (by decide +kernel) (by decide +kernel)
set_option maxRecDepth 20000 in
theorem gX7_writeFields_X7_has : GoodIn wsX7_writeFields (va_wsS RX7 94 yX7_has wsX7_has) := goodIn_app (goodIn_of _ (by decide +kernel)) ggX7_writeFields_X7_has
theorem dX7_writeFields_0 : decode cX7_writeFields 0 = .ok (.aload_n 0, 1) := by decide +kernel
theorem dX7_writeFields_1 : decode cX7_writeFields 1 = .ok (.iconst 0, 1) := by decide +kernel
theorem dX7_writeFields_2 : decode cX7_writeFields 2 = .ok (.putfield 39, 3) := by decide +kernel
theorem dX7_writeFields_5 : decode cX7_writeFields 5 = .ok (.aload_n 0, 1) := by decide +kernel
theorem dX7_writeFields_6 : decode cX7_writeFields 6 = .ok (.invokevirtual 140, 3) := by decide +kernel
theorem dX7_writeFields_9 : decode cX7_writeFields 9 = .ok (.istore_n 1, 1) := by decide +kernel
theorem dX7_writeFields_10 : decode cX7_writeFields 10 = .ok (.aload_n 0, 1) := by decide +kernel
theorem dX7_writeFields_11 : decode cX7_writeFields 11 = .ok (.aload_n 0, 1) := by decide +kernel
theorem dX7_writeFields_12 : decode cX7_writeFields 12 = .ok (.getfield 7, 3) := by decide +kernel
theorem dX7_writeFields_15 : decode cX7_writeFields 15 = .ok (.iconst 2, 1) := by decide +kernel
theorem dX7_writeFields_16 : decode cX7_writeFields 16 = .ok (.iaload, 1) := by decide +kernel
theorem dX7_writeFields_17 : decode cX7_writeFields 17 = .ok (.invokevirtual 98, 3) := by decide +kernel
theorem dX7_writeFields_20 : decode cX7_writeFields 20 = .ok (.istore_n 2, 1) := by decide +kernel
theorem dX7_writeFields_21 : decode cX7_writeFields 21 = .ok (.aload_n 0, 1) := by decide +kernel
theorem dX7_writeFields_22 : decode cX7_writeFields 22 = .ok (.iconst 0, 1) := by decide +kernel
theorem dX7_writeFields_23 : decode cX7_writeFields 23 = .ok (.putfield 238, 3) := by decide +kernel
theorem dX7_writeFields_26 : decode cX7_writeFields 26 = .ok (.iconst 0, 1) := by decide +kernel
theorem dX7_writeFields_27 : decode cX7_writeFields 27 = .ok (.istore_n 3, 1) := by decide +kernel
theorem dX7_writeFields_28 : decode cX7_writeFields 28 = .ok (.iload_n 3, 1) := by decide +kernel
theorem dX7_writeFields_29 : decode cX7_writeFields 29 = .ok (.bipush 16, 2) := by decide +kernel
theorem dX7_writeFields_31 : decode cX7_writeFields 31 = .ok (.if_icmp .ge 99, 3) := by decide +kernel
theorem dX7_writeFields_34 : decode cX7_writeFields 34 = .ok (.iload_n 3, 1) := by decide +kernel
theorem dX7_writeFields_35 : decode cX7_writeFields 35 = .ok (.ifCond .le 15, 3) := by decide +kernel
theorem dX7_writeFields_38 : decode cX7_writeFields 38 = .ok (.iload_n 3, 1) := by decide +kernel
theorem dX7_writeFields_39 : decode cX7_writeFields 39 = .ok (.iconst 4, 1) := by decide +kernel
theorem dX7_writeFields_40 : decode cX7_writeFields 40 = .ok (.irem, 1) := by decide +kernel
theorem dX7_writeFields_41 : decode cX7_writeFields 41 = .ok (.ifCond .ne 9, 3) := by decide +kernel
theorem dX7_writeFields_44 : decode cX7_writeFields 44 = .ok (.aload_n 0, 1) := by decide +kernel
theorem dX7_writeFields_45 : decode cX7_writeFields 45 = .ok (.bipush 47, 2) := by decide +kernel
theorem dX7_writeFields_47 : decode cX7_writeFields 47 = .ok (.invokevirtual 244, 3) := by decide +kernel
theorem dX7_writeFields_50 : decode cX7_writeFields 50 = .ok (.aload_n 0, 1) := by decide +kernel
theorem dX7_writeFields_51 : decode cX7_writeFields 51 = .ok (.iload_n 3, 1) := by decide +kernel
theorem dX7_writeFields_52 : decode cX7_writeFields 52 = .ok (.invokevirtual 83, 3) := by decide +kernel
theorem dX7_writeFields_55 : decode cX7_writeFields 55 = .ok (.istore 4, 2) := by decide +kernel
theorem dX7_writeFields_57 : decode cX7_writeFields 57 = .ok (.iload 4, 2) := by decide +kernel
theorem dX7_writeFields_59 : decode cX7_writeFields 59 = .ok (.ifCond .ge 25, 3) := by decide +kernel
theorem dX7_writeFields_62 : decode cX7_writeFields 62 = .ok (.aload_n 0, 1) := by decide +kernel
theorem dX7_writeFields_63 : decode cX7_writeFields 63 = .ok (.iload_n 1, 1) := by decide +kernel
theorem dX7_writeFields_64 : decode cX7_writeFields 64 = .ok (.iload_n 3, 1) := by decide +kernel
theorem dX7_writeFields_65 : decode cX7_writeFields 65 = .ok (.invokestatic 94, 3) := by decide +kernel
theorem dX7_writeFields_68 : decode cX7_writeFields 68 = .ok (.ifCond .eq 8, 3) := by decide +kernel
theorem dX7_writeFields_71 : decode cX7_writeFields 71 = .ok (.bipush 43, 2) := by decide +kernel
theorem dX7_writeFields_73 : decode cX7_writeFields 73 = .ok (.goto 5, 3) := by decide +kernel
theorem dX7_writeFields_76 : decode cX7_writeFields 76 = .ok (.bipush 46, 2) := by decide +kernel
theorem dX7_writeFields_78 : decode cX7_writeFields 78 = .ok (.invokevirtual 244, 3) := by decide +kernel
theorem dX7_writeFields_81 : decode cX7_writeFields 81 = .ok (.goto 43, 3) := by decide +kernel
theorem dX7_writeFields_84 : decode cX7_writeFields 84 = .ok (.aload_n 0, 1) := by decide +kernel
theorem dX7_writeFields_85 : decode cX7_writeFields 85 = .ok (.aload_n 0, 1) := by decide +kernel
theorem dX7_writeFields_86 : decode cX7_writeFields 86 = .ok (.getfield 7, 3) := by decide +kernel
theorem dX7_writeFields_89 : decode cX7_writeFields 89 = .ok (.bipush 15, 2) := by decide +kernel
theorem dX7_writeFields_91 : decode cX7_writeFields 91 = .ok (.iaload, 1) := by decide +kernel
theorem dX7_writeFields_92 : decode cX7_writeFields 92 = .ok (.iload 4, 2) := by decide +kernel
theorem dX7_writeFields_94 : decode cX7_writeFields 94 = .ok (.invokestatic 94, 3) := by decide +kernel
theorem dX7_writeFields_97 : decode cX7_writeFields 97 = .ok (.ifCond .eq 8, 3) := by decide +kernel
theorem dX7_writeFields_100 : decode cX7_writeFields 100 = .ok (.bipush 82, 2) := by decide +kernel
theorem dX7_writeFields_102 : decode cX7_writeFields 102 = .ok (.goto 19, 3) := by decide +kernel
theorem dX7_writeFields_105 : decode cX7_writeFields 105 = .ok (.iload_n 2, 1) := by decide +kernel
theorem dX7_writeFields_106 : decode cX7_writeFields 106 = .ok (.iload 4, 2) := by decide +kernel
theorem dX7_writeFields_108 : decode cX7_writeFields 108 = .ok (.invokestatic 94, 3) := by decide +kernel
theorem dX7_writeFields_111 : decode cX7_writeFields 111 = .ok (.ifCond .eq 8, 3) := by decide +kernel
theorem dX7_writeFields_114 : decode cX7_writeFields 114 = .ok (.bipush 67, 2) := by decide +kernel
theorem dX7_writeFields_116 : decode cX7_writeFields 116 = .ok (.goto 5, 3) := by decide +kernel
theorem dX7_writeFields_119 : decode cX7_writeFields 119 = .ok (.bipush 83, 2) := by decide +kernel
theorem dX7_writeFields_121 : decode cX7_writeFields 121 = .ok (.invokevirtual 244, 3) := by decide +kernel
theorem dX7_writeFields_124 : decode cX7_writeFields 124 = .ok (.iinc 3 1, 3) := by decide +kernel
theorem dX7_writeFields_127 : decode cX7_writeFields 127 = .ok (.goto (-99), 3) := by decide +kernel
theorem dX7_writeFields_130 : decode cX7_writeFields 130 = .ok (.aload_n 0, 1) := by decide +kernel
theorem dX7_writeFields_131 : decode cX7_writeFields 131 = .ok (.getfield 238, 3) := by decide +kernel
theorem dX7_writeFields_134 : decode cX7_writeFields 134 = .ok (.ireturn, 1) := by decide +kernel
set_option maxRecDepth 20000 in
theorem ggX7_lineCharacter_X7_in : GoodIn wsX7_lineCharacter wsX7_in := goodIn_r _ [6] (by decide +kernel) (by decide +kernel)
set_option maxRecDepth 20000 in
theorem gX7_lineCharacter_X7_in : GoodIn wsX7_lineCharacter (va_wsS RX7 65 yX7_in wsX7_in) := goodIn_app (goodIn_of _ (by decide +kernel)) ggX7_lineCharacter_X7_in
set_option maxRecDepth 20000 in
theorem ggX7_lineCharacter_X7_fails : GoodIn wsX7_lineCharacter wsX7_fails := goodIn_r _ [10, 11, 12, 13, 14, 15, 16, 17, 18, 19, 20, 21, 22, 23, 24, 25, 26, 27, 28, 29, 30, 31, 32, 33] (by decide +kernel) (by decide +kernel)
set_option maxRecDepth 20000 in
theorem gX7_lineCharacter_X7_fails : GoodIn wsX7_lineCharacter (wsV RX7 73 RX7 yX7_fails wsX7_fails) := goodIn_app (goodIn_of _ (by decide +kernel)) ggX7_lineCharacter_X7_fails
theorem dX7_lineCharacter_0 : decode cX7_lineCharacter 0 = .ok (.aload_n 0, 1) := by decide +kernel
theorem dX7_lineCharacter_1 : decode cX7_lineCharacter 1 = .ok (.iload_n 1, 1) := by decide +kernel
theorem dX7_lineCharacter_2 : decode cX7_lineCharacter 2 = .ok (.iconst 0, 1) := by decide +kernel
theorem dX7_lineCharacter_3 : decode cX7_lineCharacter 3 = .ok (.aload_n 0, 1) := by decide +kernel
theorem dX7_lineCharacter_4 : decode cX7_lineCharacter 4 = .ok (.getfield 238, 3) := by decide +kernel
theorem dX7_lineCharacter_7 : decode cX7_lineCharacter 7 = .ok (.iconst 1, 1) := by decide +kernel
theorem dX7_lineCharacter_8 : decode cX7_lineCharacter 8 = .ok (.isub, 1) := by decide +kernel
theorem dX7_lineCharacter_9 : decode cX7_lineCharacter 9 = .ok (.invokestatic 65, 3) := by decide +kernel
theorem dX7_lineCharacter_12 : decode cX7_lineCharacter 12 = .ok (.ifCond .eq 7, 3) := by decide +kernel
theorem dX7_lineCharacter_15 : decode cX7_lineCharacter 15 = .ok (.iconst 0, 1) := by decide +kernel
theorem dX7_lineCharacter_16 : decode cX7_lineCharacter 16 = .ok (.goto 4, 3) := by decide +kernel
theorem dX7_lineCharacter_19 : decode cX7_lineCharacter 19 = .ok (.iconst 1, 1) := by decide +kernel
theorem dX7_lineCharacter_20 : decode cX7_lineCharacter 20 = .ok (.invokevirtual 73, 3) := by decide +kernel
theorem dX7_lineCharacter_23 : decode cX7_lineCharacter 23 = .ok (.ifCond .eq 8, 3) := by decide +kernel
theorem dX7_lineCharacter_26 : decode cX7_lineCharacter 26 = .ok (.bipush 32, 2) := by decide +kernel
theorem dX7_lineCharacter_28 : decode cX7_lineCharacter 28 = .ok (.goto 9, 3) := by decide +kernel
theorem dX7_lineCharacter_31 : decode cX7_lineCharacter 31 = .ok (.aload_n 0, 1) := by decide +kernel
theorem dX7_lineCharacter_32 : decode cX7_lineCharacter 32 = .ok (.getfield 32, 3) := by decide +kernel
theorem dX7_lineCharacter_35 : decode cX7_lineCharacter 35 = .ok (.iload_n 1, 1) := by decide +kernel
theorem dX7_lineCharacter_36 : decode cX7_lineCharacter 36 = .ok (.caload, 1) := by decide +kernel
theorem dX7_lineCharacter_37 : decode cX7_lineCharacter 37 = .ok (.ireturn, 1) := by decide +kernel
set_option maxRecDepth 20000 in
theorem ggX7_denial_X7_fails : GoodIn wsX7_denial wsX7_fails := goodIn_r _ [6, 7, 8, 9, 10, 11, 12, 13, 14, 15, 16, 17, 18, 19, 20, 21, 22, 23, 24, 25, 26, 27, 28, 29] (by decide +kernel) (by decide +kernel)
set_option maxRecDepth 20000 in
theorem gX7_denial_X7_fails : GoodIn wsX7_denial (wsV RX7 73 RX7 yX7_fails wsX7_fails) := goodIn_app (goodIn_of _ (by decide +kernel)) ggX7_denial_X7_fails
theorem dX7_denial_0 : decode cX7_denial 0 = .ok (.aload_n 0, 1) := by decide +kernel
theorem dX7_denial_1 : decode cX7_denial 1 = .ok (.aload_n 0, 1) := by decide +kernel
theorem dX7_denial_2 : decode cX7_denial 2 = .ok (.getfield 46, 3) := by decide +kernel
theorem dX7_denial_5 : decode cX7_denial 5 = .ok (.ifCond .ne 7, 3) := by decide +kernel
theorem dX7_denial_8 : decode cX7_denial 8 = .ok (.iconst 1, 1) := by decide +kernel
theorem dX7_denial_9 : decode cX7_denial 9 = .ok (.goto 4, 3) := by decide +kernel
theorem dX7_denial_12 : decode cX7_denial 12 = .ok (.iconst 0, 1) := by decide +kernel
theorem dX7_denial_13 : decode cX7_denial 13 = .ok (.invokevirtual 73, 3) := by decide +kernel
theorem dX7_denial_16 : decode cX7_denial 16 = .ok (.ifCond .eq 7, 3) := by decide +kernel
theorem dX7_denial_19 : decode cX7_denial 19 = .ok (.iconst 0, 1) := by decide +kernel
theorem dX7_denial_20 : decode cX7_denial 20 = .ok (.goto 7, 3) := by decide +kernel
theorem dX7_denial_23 : decode cX7_denial 23 = .ok (.aload_n 0, 1) := by decide +kernel
theorem dX7_denial_24 : decode cX7_denial 24 = .ok (.getfield 46, 3) := by decide +kernel
theorem dX7_denial_27 : decode cX7_denial 27 = .ok (.ireturn, 1) := by decide +kernel
set_option maxRecDepth 20000 in
theorem ggX7_denialDetail_X7_fails : GoodIn wsX7_denialDetail wsX7_fails := goodIn_r _ [7, 8, 9, 10, 11, 12, 13, 14, 15, 16, 17, 18, 19, 20, 21, 22, 23, 24, 25, 26, 27, 28, 29, 30] (by decide +kernel) (by decide +kernel)
set_option maxRecDepth 20000 in
theorem gX7_denialDetail_X7_fails : GoodIn wsX7_denialDetail (wsV RX7 73 RX7 yX7_fails wsX7_fails) := goodIn_app (goodIn_of _ (by decide +kernel)) ggX7_denialDetail_X7_fails
theorem dX7_denialDetail_0 : decode cX7_denialDetail 0 = .ok (.aload_n 0, 1) := by decide +kernel
theorem dX7_denialDetail_1 : decode cX7_denialDetail 1 = .ok (.aload_n 0, 1) := by decide +kernel
theorem dX7_denialDetail_2 : decode cX7_denialDetail 2 = .ok (.getfield 46, 3) := by decide +kernel
theorem dX7_denialDetail_5 : decode cX7_denialDetail 5 = .ok (.ifCond .ne 7, 3) := by decide +kernel
theorem dX7_denialDetail_8 : decode cX7_denialDetail 8 = .ok (.iconst 1, 1) := by decide +kernel
theorem dX7_denialDetail_9 : decode cX7_denialDetail 9 = .ok (.goto 4, 3) := by decide +kernel
theorem dX7_denialDetail_12 : decode cX7_denialDetail 12 = .ok (.iconst 0, 1) := by decide +kernel
theorem dX7_denialDetail_13 : decode cX7_denialDetail 13 = .ok (.invokevirtual 73, 3) := by decide +kernel
theorem dX7_denialDetail_16 : decode cX7_denialDetail 16 = .ok (.ifCond .eq 7, 3) := by decide +kernel
theorem dX7_denialDetail_19 : decode cX7_denialDetail 19 = .ok (.iconst 0, 1) := by decide +kernel
theorem dX7_denialDetail_20 : decode cX7_denialDetail 20 = .ok (.goto 7, 3) := by decide +kernel
theorem dX7_denialDetail_23 : decode cX7_denialDetail 23 = .ok (.aload_n 0, 1) := by decide +kernel
theorem dX7_denialDetail_24 : decode cX7_denialDetail 24 = .ok (.getfield 49, 3) := by decide +kernel
theorem dX7_denialDetail_27 : decode cX7_denialDetail 27 = .ok (.ireturn, 1) := by decide +kernel
set_option maxRecDepth 20000 in
theorem ggX7_denialCause_X7_fails : GoodIn wsX7_denialCause wsX7_fails := goodIn_r _ [6, 7, 8, 9, 10, 11, 12, 13, 14, 15, 16, 17, 18, 19, 20, 21, 22, 23, 24, 25, 26, 27, 28, 29] (by decide +kernel) (by decide +kernel)
set_option maxRecDepth 20000 in
theorem gX7_denialCause_X7_fails : GoodIn wsX7_denialCause (wsV RX7 73 RX7 yX7_fails wsX7_fails) := goodIn_app (goodIn_of _ (by decide +kernel)) ggX7_denialCause_X7_fails
theorem dX7_denialCause_0 : decode cX7_denialCause 0 = .ok (.aload_n 0, 1) := by decide +kernel
theorem dX7_denialCause_1 : decode cX7_denialCause 1 = .ok (.aload_n 0, 1) := by decide +kernel
theorem dX7_denialCause_2 : decode cX7_denialCause 2 = .ok (.getfield 52, 3) := by decide +kernel
theorem dX7_denialCause_5 : decode cX7_denialCause 5 = .ok (.ifCond .ne 7, 3) := by decide +kernel
theorem dX7_denialCause_8 : decode cX7_denialCause 8 = .ok (.iconst 1, 1) := by decide +kernel
theorem dX7_denialCause_9 : decode cX7_denialCause 9 = .ok (.goto 4, 3) := by decide +kernel
theorem dX7_denialCause_12 : decode cX7_denialCause 12 = .ok (.iconst 0, 1) := by decide +kernel
theorem dX7_denialCause_13 : decode cX7_denialCause 13 = .ok (.invokevirtual 73, 3) := by decide +kernel
theorem dX7_denialCause_16 : decode cX7_denialCause 16 = .ok (.ifCond .eq 7, 3) := by decide +kernel
theorem dX7_denialCause_19 : decode cX7_denialCause 19 = .ok (.iconst 0, 1) := by decide +kernel
theorem dX7_denialCause_20 : decode cX7_denialCause 20 = .ok (.goto 7, 3) := by decide +kernel
theorem dX7_denialCause_23 : decode cX7_denialCause 23 = .ok (.aload_n 0, 1) := by decide +kernel
theorem dX7_denialCause_24 : decode cX7_denialCause 24 = .ok (.getfield 52, 3) := by decide +kernel
theorem dX7_denialCause_27 : decode cX7_denialCause 27 = .ok (.ireturn, 1) := by decide +kernel
set_option maxRecDepth 20000 in
theorem ggX7_undo_X7_fails : GoodIn wsX7_undo wsX7_fails := goodIn_r _ [8, 9, 10, 14, 15, 16, 17, 18, 19, 20, 21, 22, 23, 24, 25, 26, 27, 28, 29, 30, 31, 32, 33, 34] (by decide +kernel) (by decide +kernel)
set_option maxRecDepth 20000 in
theorem gX7_undo_X7_fails : GoodIn wsX7_undo (wsV RX7 73 RX7 yX7_fails wsX7_fails) := goodIn_app (goodIn_of _ (by decide +kernel)) ggX7_undo_X7_fails
set_option maxRecDepth 20000 in
theorem ggX7_undo_X7_copies : GoodIn wsX7_undo wsX7_copies := goodIn_ca (goodIn_r _ [13] (by decide +kernel) (by decide +kernel)) (goodIn_sub (fun _ h => List.mem_cons_of_mem _ (List.mem_append_right _ h)) (by decide +kernel))
set_option maxRecDepth 20000 in
theorem gX7_undo_X7_copies : GoodIn wsX7_undo (va_wsS RX7 61 yX7_copies wsX7_copies) := goodIn_app (goodIn_of _ (by decide +kernel)) ggX7_undo_X7_copies
theorem dX7_undo_0 : decode cX7_undo 0 = .ok (.aload_n 0, 1) := by decide +kernel
theorem dX7_undo_1 : decode cX7_undo 1 = .ok (.aload_n 0, 1) := by decide +kernel
theorem dX7_undo_2 : decode cX7_undo 2 = .ok (.getfield 58, 3) := by decide +kernel
theorem dX7_undo_5 : decode cX7_undo 5 = .ok (.ifCond .ne 7, 3) := by decide +kernel
theorem dX7_undo_8 : decode cX7_undo 8 = .ok (.iconst 1, 1) := by decide +kernel
theorem dX7_undo_9 : decode cX7_undo 9 = .ok (.goto 4, 3) := by decide +kernel
theorem dX7_undo_12 : decode cX7_undo 12 = .ok (.iconst 0, 1) := by decide +kernel
theorem dX7_undo_13 : decode cX7_undo 13 = .ok (.invokevirtual 73, 3) := by decide +kernel
theorem dX7_undo_16 : decode cX7_undo 16 = .ok (.ifCond .eq 5, 3) := by decide +kernel
theorem dX7_undo_19 : decode cX7_undo 19 = .ok (.iconst 0, 1) := by decide +kernel
theorem dX7_undo_20 : decode cX7_undo 20 = .ok (.ireturn, 1) := by decide +kernel
theorem dX7_undo_21 : decode cX7_undo 21 = .ok (.aload_n 0, 1) := by decide +kernel
theorem dX7_undo_22 : decode cX7_undo 22 = .ok (.dup, 1) := by decide +kernel
theorem dX7_undo_23 : decode cX7_undo 23 = .ok (.getfield 58, 3) := by decide +kernel
theorem dX7_undo_26 : decode cX7_undo 26 = .ok (.iconst 1, 1) := by decide +kernel
theorem dX7_undo_27 : decode cX7_undo 27 = .ok (.isub, 1) := by decide +kernel
theorem dX7_undo_28 : decode cX7_undo 28 = .ok (.putfield 58, 3) := by decide +kernel
theorem dX7_undo_31 : decode cX7_undo 31 = .ok (.aload_n 0, 1) := by decide +kernel
theorem dX7_undo_32 : decode cX7_undo 32 = .ok (.getfield 13, 3) := by decide +kernel
theorem dX7_undo_35 : decode cX7_undo 35 = .ok (.bipush 112, 2) := by decide +kernel
theorem dX7_undo_37 : decode cX7_undo 37 = .ok (.aload_n 0, 1) := by decide +kernel
theorem dX7_undo_38 : decode cX7_undo 38 = .ok (.getfield 58, 3) := by decide +kernel
theorem dX7_undo_41 : decode cX7_undo 41 = .ok (.imul, 1) := by decide +kernel
theorem dX7_undo_42 : decode cX7_undo 42 = .ok (.aload_n 0, 1) := by decide +kernel
theorem dX7_undo_43 : decode cX7_undo 43 = .ok (.getfield 7, 3) := by decide +kernel
theorem dX7_undo_46 : decode cX7_undo 46 = .ok (.iconst 0, 1) := by decide +kernel
theorem dX7_undo_47 : decode cX7_undo 47 = .ok (.invokestatic 61, 3) := by decide +kernel
theorem dX7_undo_50 : decode cX7_undo 50 = .ok (.aload_n 0, 1) := by decide +kernel
theorem dX7_undo_51 : decode cX7_undo 51 = .ok (.getfield 58, 3) := by decide +kernel
theorem dX7_undo_54 : decode cX7_undo 54 = .ok (.ireturn, 1) := by decide +kernel
theorem dX7_undoCount_0 : decode cX7_undoCount 0 = .ok (.aload_n 0, 1) := by decide +kernel
theorem dX7_undoCount_1 : decode cX7_undoCount 1 = .ok (.iconst 0, 1) := by decide +kernel
theorem dX7_undoCount_2 : decode cX7_undoCount 2 = .ok (.putfield 39, 3) := by decide +kernel
theorem dX7_undoCount_5 : decode cX7_undoCount 5 = .ok (.aload_n 0, 1) := by decide +kernel
theorem dX7_undoCount_6 : decode cX7_undoCount 6 = .ok (.getfield 58, 3) := by decide +kernel
theorem dX7_undoCount_9 : decode cX7_undoCount 9 = .ok (.ireturn, 1) := by decide +kernel
set_option maxRecDepth 20000 in
theorem ggX7_saveSnapshot_X7_copies : GoodIn wsX7_saveSnapshot wsX7_copies := goodIn_ca (goodIn_r _ [8] (by decide +kernel) (by decide +kernel)) (goodIn_sub (fun _ h => List.mem_cons_of_mem _ (List.mem_append_right _ h)) (by decide +kernel))
set_option maxRecDepth 20000 in
theorem gX7_saveSnapshot_X7_copies : GoodIn wsX7_saveSnapshot (va_wsS RX7 61 yX7_copies wsX7_copies) := goodIn_app (goodIn_of _ (by decide +kernel)) ggX7_saveSnapshot_X7_copies
theorem dX7_saveSnapshot_0 : decode cX7_saveSnapshot 0 = .ok (.aload_n 0, 1) := by decide +kernel
theorem dX7_saveSnapshot_1 : decode cX7_saveSnapshot 1 = .ok (.iconst 0, 1) := by decide +kernel
theorem dX7_saveSnapshot_2 : decode cX7_saveSnapshot 2 = .ok (.putfield 39, 3) := by decide +kernel
theorem dX7_saveSnapshot_5 : decode cX7_saveSnapshot 5 = .ok (.aload_n 0, 1) := by decide +kernel
theorem dX7_saveSnapshot_6 : decode cX7_saveSnapshot 6 = .ok (.iconst 1, 1) := by decide +kernel
theorem dX7_saveSnapshot_7 : decode cX7_saveSnapshot 7 = .ok (.putfield 251, 3) := by decide +kernel
theorem dX7_saveSnapshot_10 : decode cX7_saveSnapshot 10 = .ok (.aload_n 0, 1) := by decide +kernel
theorem dX7_saveSnapshot_11 : decode cX7_saveSnapshot 11 = .ok (.getfield 7, 3) := by decide +kernel
theorem dX7_saveSnapshot_14 : decode cX7_saveSnapshot 14 = .ok (.iconst 0, 1) := by decide +kernel
theorem dX7_saveSnapshot_15 : decode cX7_saveSnapshot 15 = .ok (.aload_n 0, 1) := by decide +kernel
theorem dX7_saveSnapshot_16 : decode cX7_saveSnapshot 16 = .ok (.getfield 16, 3) := by decide +kernel
theorem dX7_saveSnapshot_19 : decode cX7_saveSnapshot 19 = .ok (.iconst 0, 1) := by decide +kernel
theorem dX7_saveSnapshot_20 : decode cX7_saveSnapshot 20 = .ok (.invokestatic 61, 3) := by decide +kernel
theorem dX7_saveSnapshot_23 : decode cX7_saveSnapshot 23 = .ok (.aload_n 0, 1) := by decide +kernel
theorem dX7_saveSnapshot_24 : decode cX7_saveSnapshot 24 = .ok (.getfield 7, 3) := by decide +kernel
theorem dX7_saveSnapshot_27 : decode cX7_saveSnapshot 27 = .ok (.iconst 0, 1) := by decide +kernel
theorem dX7_saveSnapshot_28 : decode cX7_saveSnapshot 28 = .ok (.iaload, 1) := by decide +kernel
theorem dX7_saveSnapshot_29 : decode cX7_saveSnapshot 29 = .ok (.ireturn, 1) := by decide +kernel
set_option maxRecDepth 20000 in
theorem ggX7_restoreSnapshot_X7_fails : GoodIn wsX7_restoreSnapshot wsX7_fails := goodIn_r _ [9, 10, 11, 15, 16, 17, 18, 19, 20, 21, 22, 23, 24, 25, 26, 27, 28, 29, 30, 31, 32, 33, 34, 35] (by decide +kernel) (by decide +kernel)
set_option maxRecDepth 20000 in
theorem gX7_restoreSnapshot_X7_fails : GoodIn wsX7_restoreSnapshot (wsV RX7 73 RX7 yX7_fails wsX7_fails) := goodIn_app (goodIn_of _ (by decide +kernel)) ggX7_restoreSnapshot_X7_fails
set_option maxRecDepth 20000 in
theorem ggX7_restoreSnapshot_X7_copies : GoodIn wsX7_restoreSnapshot wsX7_copies := goodIn_ca (goodIn_r _ [14] (by decide +kernel) (by decide +kernel)) (goodIn_sub (fun _ h => List.mem_cons_of_mem _ (List.mem_append_right _ h)) (by decide +kernel))
set_option maxRecDepth 20000 in
theorem gX7_restoreSnapshot_X7_copies : GoodIn wsX7_restoreSnapshot (va_wsS RX7 61 yX7_copies wsX7_copies) := goodIn_app (goodIn_of _ (by decide +kernel)) ggX7_restoreSnapshot_X7_copies
theorem dX7_restoreSnapshot_0 : decode cX7_restoreSnapshot 0 = .ok (.aload_n 0, 1) := by decide +kernel
theorem dX7_restoreSnapshot_1 : decode cX7_restoreSnapshot 1 = .ok (.aload_n 0, 1) := by decide +kernel
theorem dX7_restoreSnapshot_2 : decode cX7_restoreSnapshot 2 = .ok (.getfield 251, 3) := by decide +kernel
theorem dX7_restoreSnapshot_5 : decode cX7_restoreSnapshot 5 = .ok (.ifCond .eq 7, 3) := by decide +kernel
theorem dX7_restoreSnapshot_8 : decode cX7_restoreSnapshot 8 = .ok (.iconst 0, 1) := by decide +kernel
theorem dX7_restoreSnapshot_9 : decode cX7_restoreSnapshot 9 = .ok (.goto 4, 3) := by decide +kernel
theorem dX7_restoreSnapshot_12 : decode cX7_restoreSnapshot 12 = .ok (.iconst 1, 1) := by decide +kernel
theorem dX7_restoreSnapshot_13 : decode cX7_restoreSnapshot 13 = .ok (.invokevirtual 73, 3) := by decide +kernel
theorem dX7_restoreSnapshot_16 : decode cX7_restoreSnapshot 16 = .ok (.ifCond .eq 5, 3) := by decide +kernel
theorem dX7_restoreSnapshot_19 : decode cX7_restoreSnapshot 19 = .ok (.iconst 0, 1) := by decide +kernel
theorem dX7_restoreSnapshot_20 : decode cX7_restoreSnapshot 20 = .ok (.ireturn, 1) := by decide +kernel
theorem dX7_restoreSnapshot_21 : decode cX7_restoreSnapshot 21 = .ok (.aload_n 0, 1) := by decide +kernel
theorem dX7_restoreSnapshot_22 : decode cX7_restoreSnapshot 22 = .ok (.getfield 16, 3) := by decide +kernel
theorem dX7_restoreSnapshot_25 : decode cX7_restoreSnapshot 25 = .ok (.iconst 0, 1) := by decide +kernel
theorem dX7_restoreSnapshot_26 : decode cX7_restoreSnapshot 26 = .ok (.aload_n 0, 1) := by decide +kernel
theorem dX7_restoreSnapshot_27 : decode cX7_restoreSnapshot 27 = .ok (.getfield 7, 3) := by decide +kernel
theorem dX7_restoreSnapshot_30 : decode cX7_restoreSnapshot 30 = .ok (.iconst 0, 1) := by decide +kernel
theorem dX7_restoreSnapshot_31 : decode cX7_restoreSnapshot 31 = .ok (.invokestatic 61, 3) := by decide +kernel
theorem dX7_restoreSnapshot_34 : decode cX7_restoreSnapshot 34 = .ok (.aload_n 0, 1) := by decide +kernel
theorem dX7_restoreSnapshot_35 : decode cX7_restoreSnapshot 35 = .ok (.iconst 0, 1) := by decide +kernel
theorem dX7_restoreSnapshot_36 : decode cX7_restoreSnapshot 36 = .ok (.putfield 58, 3) := by decide +kernel
theorem dX7_restoreSnapshot_39 : decode cX7_restoreSnapshot 39 = .ok (.aload_n 0, 1) := by decide +kernel
theorem dX7_restoreSnapshot_40 : decode cX7_restoreSnapshot 40 = .ok (.getfield 7, 3) := by decide +kernel
theorem dX7_restoreSnapshot_43 : decode cX7_restoreSnapshot 43 = .ok (.iconst 0, 1) := by decide +kernel
theorem dX7_restoreSnapshot_44 : decode cX7_restoreSnapshot 44 = .ok (.iaload, 1) := by decide +kernel
theorem dX7_restoreSnapshot_45 : decode cX7_restoreSnapshot 45 = .ok (.ireturn, 1) := by decide +kernel
