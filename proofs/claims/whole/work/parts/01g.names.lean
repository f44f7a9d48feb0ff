theorem dX10_addPool_0 : decode cX10_addPool 0 = .ok (.iload_n 1, 1) := by decide +kernel
theorem dX10_addPool_1 : decode cX10_addPool 1 = .ok (.iconst 1, 1) := by decide +kernel
theorem dX10_addPool_2 : decode cX10_addPool 2 = .ok (.bipush 40, 2) := by decide +kernel
theorem dX10_addPool_4 : decode cX10_addPool 4 = .ok (.invokestatic 34, 3) := by decide +kernel
theorem dX10_addPool_7 : decode cX10_addPool 7 = .ok (.ifCond .ne 6, 3) := by decide +kernel
theorem dX10_addPool_10 : decode cX10_addPool 10 = .ok (.bipush (-2), 2) := by decide +kernel
theorem dX10_addPool_12 : decode cX10_addPool 12 = .ok (.ireturn, 1) := by decide +kernel
theorem dX10_addPool_13 : decode cX10_addPool 13 = .ok (.aload_n 0, 1) := by decide +kernel
theorem dX10_addPool_14 : decode cX10_addPool 14 = .ok (.getfield 7, 3) := by decide +kernel
theorem dX10_addPool_17 : decode cX10_addPool 17 = .ok (.iconst 4, 1) := by decide +kernel
theorem dX10_addPool_18 : decode cX10_addPool 18 = .ok (.iaload, 1) := by decide +kernel
theorem dX10_addPool_19 : decode cX10_addPool 19 = .ok (.iconst 4, 1) := by decide +kernel
theorem dX10_addPool_20 : decode cX10_addPool 20 = .ok (.if_icmp .ne 6, 3) := by decide +kernel
theorem dX10_addPool_23 : decode cX10_addPool 23 = .ok (.bipush (-3), 2) := by decide +kernel
theorem dX10_addPool_25 : decode cX10_addPool 25 = .ok (.ireturn, 1) := by decide +kernel
theorem dX10_addPool_26 : decode cX10_addPool 26 = .ok (.aload_n 0, 1) := by decide +kernel
theorem dX10_addPool_27 : decode cX10_addPool 27 = .ok (.invokevirtual 38, 3) := by decide +kernel
theorem dX10_addPool_30 : decode cX10_addPool 30 = .ok (.sipush 424, 3) := by decide +kernel
theorem dX10_addPool_33 : decode cX10_addPool 33 = .ok (.iconst 3, 1) := by decide +kernel
theorem dX10_addPool_34 : decode cX10_addPool 34 = .ok (.aload_n 0, 1) := by decide +kernel
theorem dX10_addPool_35 : decode cX10_addPool 35 = .ok (.getfield 7, 3) := by decide +kernel
theorem dX10_addPool_38 : decode cX10_addPool 38 = .ok (.iconst 4, 1) := by decide +kernel
theorem dX10_addPool_39 : decode cX10_addPool 39 = .ok (.iaload, 1) := by decide +kernel
theorem dX10_addPool_40 : decode cX10_addPool 40 = .ok (.imul, 1) := by decide +kernel
theorem dX10_addPool_41 : decode cX10_addPool 41 = .ok (.iadd, 1) := by decide +kernel
theorem dX10_addPool_42 : decode cX10_addPool 42 = .ok (.istore_n 2, 1) := by decide +kernel
theorem dX10_addPool_43 : decode cX10_addPool 43 = .ok (.aload_n 0, 1) := by decide +kernel
theorem dX10_addPool_44 : decode cX10_addPool 44 = .ok (.getfield 7, 3) := by decide +kernel
theorem dX10_addPool_47 : decode cX10_addPool 47 = .ok (.iload_n 2, 1) := by decide +kernel
theorem dX10_addPool_48 : decode cX10_addPool 48 = .ok (.iconst 0, 1) := by decide +kernel
theorem dX10_addPool_49 : decode cX10_addPool 49 = .ok (.iastore, 1) := by decide +kernel
theorem dX10_addPool_50 : decode cX10_addPool 50 = .ok (.aload_n 0, 1) := by decide +kernel
theorem dX10_addPool_51 : decode cX10_addPool 51 = .ok (.getfield 7, 3) := by decide +kernel
theorem dX10_addPool_54 : decode cX10_addPool 54 = .ok (.iload_n 2, 1) := by decide +kernel
theorem dX10_addPool_55 : decode cX10_addPool 55 = .ok (.iconst 1, 1) := by decide +kernel
theorem dX10_addPool_56 : decode cX10_addPool 56 = .ok (.iadd, 1) := by decide +kernel
theorem dX10_addPool_57 : decode cX10_addPool 57 = .ok (.iload_n 1, 1) := by decide +kernel
theorem dX10_addPool_58 : decode cX10_addPool 58 = .ok (.iastore, 1) := by decide +kernel
theorem dX10_addPool_59 : decode cX10_addPool 59 = .ok (.aload_n 0, 1) := by decide +kernel
theorem dX10_addPool_60 : decode cX10_addPool 60 = .ok (.getfield 7, 3) := by decide +kernel
theorem dX10_addPool_63 : decode cX10_addPool 63 = .ok (.iload_n 2, 1) := by decide +kernel
theorem dX10_addPool_64 : decode cX10_addPool 64 = .ok (.iconst 2, 1) := by decide +kernel
theorem dX10_addPool_65 : decode cX10_addPool 65 = .ok (.iadd, 1) := by decide +kernel
theorem dX10_addPool_66 : decode cX10_addPool 66 = .ok (.iconst 0, 1) := by decide +kernel
theorem dX10_addPool_67 : decode cX10_addPool 67 = .ok (.iastore, 1) := by decide +kernel
theorem dX10_addPool_68 : decode cX10_addPool 68 = .ok (.aload_n 0, 1) := by decide +kernel
theorem dX10_addPool_69 : decode cX10_addPool 69 = .ok (.getfield 7, 3) := by decide +kernel
theorem dX10_addPool_72 : decode cX10_addPool 72 = .ok (.iconst 4, 1) := by decide +kernel
theorem dX10_addPool_73 : decode cX10_addPool 73 = .ok (.dup2, 1) := by decide +kernel
theorem dX10_addPool_74 : decode cX10_addPool 74 = .ok (.iaload, 1) := by decide +kernel
theorem dX10_addPool_75 : decode cX10_addPool 75 = .ok (.iconst 1, 1) := by decide +kernel
theorem dX10_addPool_76 : decode cX10_addPool 76 = .ok (.iadd, 1) := by decide +kernel
theorem dX10_addPool_77 : decode cX10_addPool 77 = .ok (.iastore, 1) := by decide +kernel
theorem dX10_addPool_78 : decode cX10_addPool 78 = .ok (.aload_n 0, 1) := by decide +kernel
theorem dX10_addPool_79 : decode cX10_addPool 79 = .ok (.aload_n 0, 1) := by decide +kernel
theorem dX10_addPool_80 : decode cX10_addPool 80 = .ok (.getfield 7, 3) := by decide +kernel
theorem dX10_addPool_83 : decode cX10_addPool 83 = .ok (.iconst 4, 1) := by decide +kernel
theorem dX10_addPool_84 : decode cX10_addPool 84 = .ok (.iaload, 1) := by decide +kernel
theorem dX10_addPool_85 : decode cX10_addPool 85 = .ok (.iconst 1, 1) := by decide +kernel
theorem dX10_addPool_86 : decode cX10_addPool 86 = .ok (.isub, 1) := by decide +kernel
theorem dX10_addPool_87 : decode cX10_addPool 87 = .ok (.invokevirtual 45, 3) := by decide +kernel
theorem dX10_addPool_90 : decode cX10_addPool 90 = .ok (.ireturn, 1) := by decide +kernel
set_option maxRecDepth 20000 in
theorem ggX10_credit_X10_noPool : GoodIn wsX10_credit wsX10_noPool := goodIn_r _ [8, 2, 9, 10, 7, 11, 27, 28, 29, 30, 31, 32, 33, 34, 35, 36] (by decide +kernel) (by decide +kernel)
set_option maxRecDepth 20000 in
theorem gX10_credit_X10_noPool : GoodIn wsX10_credit (wsV RX10 56 RX10 yX10_noPool wsX10_noPool) := goodIn_app (goodIn_of _ (by decide +kernel)) ggX10_credit_X10_noPool
set_option maxRecDepth 20000 in
theorem ggX10_credit_X10_in : GoodIn wsX10_credit wsX10_in := goodIn_r _ [11] (by decide +kernel) (by decide +kernel)
set_option maxRecDepth 20000 in
theorem gX10_credit_X10_in : GoodIn wsX10_credit (va_wsS RX10 34 yX10_in wsX10_in) := goodIn_app (goodIn_of _ (by decide +kernel)) ggX10_credit_X10_in
set_option maxRecDepth 20000 in
theorem ggX10_credit_X10_begin : GoodIn wsX10_credit wsX10_begin := goodIn_r _ [15, 16, 2, 27, 28, 29, 30, 31, 32, 33, 34, 35, 36] (by decide +kernel) (by decide +kernel)
set_option maxRecDepth 20000 in
theorem gX10_credit_X10_begin : GoodIn wsX10_credit (wsV RX10 38 RX10 yX10_begin wsX10_begin) := goodIn_app (goodIn_of _ (by decide +kernel)) ggX10_credit_X10_begin
set_option maxRecDepth 20000 in
theorem ggX10_credit_X10_done : GoodIn wsX10_credit wsX10_done := goodIn_r _ [20, 21, 22, 23, 7, 24, 25, 26, 16, 27, 28, 29, 30, 31, 32, 33, 34, 35, 36] (by decide +kernel) (by decide +kernel)
set_option maxRecDepth 20000 in
theorem gX10_credit_X10_done : GoodIn wsX10_credit (wsV RX10 45 RX10 yX10_done wsX10_done) := goodIn_app (goodIn_of _ (by decide +kernel)) ggX10_credit_X10_done
theorem dX10_credit_0 : decode cX10_credit 0 = .ok (.aload_n 0, 1) := by decide +kernel
theorem dX10_credit_1 : decode cX10_credit 1 = .ok (.iload_n 1, 1) := by decide +kernel
theorem dX10_credit_2 : decode cX10_credit 2 = .ok (.invokevirtual 56, 3) := by decide +kernel
theorem dX10_credit_5 : decode cX10_credit 5 = .ok (.ifCond .eq 5, 3) := by decide +kernel
theorem dX10_credit_8 : decode cX10_credit 8 = .ok (.iconst (-1), 1) := by decide +kernel
theorem dX10_credit_9 : decode cX10_credit 9 = .ok (.ireturn, 1) := by decide +kernel
theorem dX10_credit_10 : decode cX10_credit 10 = .ok (.iload_n 2, 1) := by decide +kernel
theorem dX10_credit_11 : decode cX10_credit 11 = .ok (.iconst 1, 1) := by decide +kernel
theorem dX10_credit_12 : decode cX10_credit 12 = .ok (.ldc 59, 2) := by decide +kernel
theorem dX10_credit_14 : decode cX10_credit 14 = .ok (.invokestatic 34, 3) := by decide +kernel
theorem dX10_credit_17 : decode cX10_credit 17 = .ok (.ifCond .ne 6, 3) := by decide +kernel
theorem dX10_credit_20 : decode cX10_credit 20 = .ok (.bipush (-2), 2) := by decide +kernel
theorem dX10_credit_22 : decode cX10_credit 22 = .ok (.ireturn, 1) := by decide +kernel
theorem dX10_credit_23 : decode cX10_credit 23 = .ok (.aload_n 0, 1) := by decide +kernel
theorem dX10_credit_24 : decode cX10_credit 24 = .ok (.getfield 7, 3) := by decide +kernel
theorem dX10_credit_27 : decode cX10_credit 27 = .ok (.sipush 424, 3) := by decide +kernel
theorem dX10_credit_30 : decode cX10_credit 30 = .ok (.iconst 3, 1) := by decide +kernel
theorem dX10_credit_31 : decode cX10_credit 31 = .ok (.iload_n 1, 1) := by decide +kernel
theorem dX10_credit_32 : decode cX10_credit 32 = .ok (.imul, 1) := by decide +kernel
theorem dX10_credit_33 : decode cX10_credit 33 = .ok (.iadd, 1) := by decide +kernel
theorem dX10_credit_34 : decode cX10_credit 34 = .ok (.iaload, 1) := by decide +kernel
theorem dX10_credit_35 : decode cX10_credit 35 = .ok (.iload_n 2, 1) := by decide +kernel
theorem dX10_credit_36 : decode cX10_credit 36 = .ok (.iadd, 1) := by decide +kernel
theorem dX10_credit_37 : decode cX10_credit 37 = .ok (.ldc 60, 2) := by decide +kernel
theorem dX10_credit_39 : decode cX10_credit 39 = .ok (.if_icmp .le 6, 3) := by decide +kernel
theorem dX10_credit_42 : decode cX10_credit 42 = .ok (.bipush (-4), 2) := by decide +kernel
theorem dX10_credit_44 : decode cX10_credit 44 = .ok (.ireturn, 1) := by decide +kernel
theorem dX10_credit_45 : decode cX10_credit 45 = .ok (.aload_n 0, 1) := by decide +kernel
theorem dX10_credit_46 : decode cX10_credit 46 = .ok (.invokevirtual 38, 3) := by decide +kernel
theorem dX10_credit_49 : decode cX10_credit 49 = .ok (.aload_n 0, 1) := by decide +kernel
theorem dX10_credit_50 : decode cX10_credit 50 = .ok (.getfield 7, 3) := by decide +kernel
theorem dX10_credit_53 : decode cX10_credit 53 = .ok (.sipush 424, 3) := by decide +kernel
theorem dX10_credit_56 : decode cX10_credit 56 = .ok (.iconst 3, 1) := by decide +kernel
theorem dX10_credit_57 : decode cX10_credit 57 = .ok (.iload_n 1, 1) := by decide +kernel
theorem dX10_credit_58 : decode cX10_credit 58 = .ok (.imul, 1) := by decide +kernel
theorem dX10_credit_59 : decode cX10_credit 59 = .ok (.iadd, 1) := by decide +kernel
theorem dX10_credit_60 : decode cX10_credit 60 = .ok (.dup2, 1) := by decide +kernel
theorem dX10_credit_61 : decode cX10_credit 61 = .ok (.iaload, 1) := by decide +kernel
theorem dX10_credit_62 : decode cX10_credit 62 = .ok (.iload_n 2, 1) := by decide +kernel
theorem dX10_credit_63 : decode cX10_credit 63 = .ok (.iadd, 1) := by decide +kernel
theorem dX10_credit_64 : decode cX10_credit 64 = .ok (.iastore, 1) := by decide +kernel
theorem dX10_credit_65 : decode cX10_credit 65 = .ok (.aload_n 0, 1) := by decide +kernel
theorem dX10_credit_66 : decode cX10_credit 66 = .ok (.aload_n 0, 1) := by decide +kernel
theorem dX10_credit_67 : decode cX10_credit 67 = .ok (.getfield 7, 3) := by decide +kernel
theorem dX10_credit_70 : decode cX10_credit 70 = .ok (.sipush 424, 3) := by decide +kernel
theorem dX10_credit_73 : decode cX10_credit 73 = .ok (.iconst 3, 1) := by decide +kernel
theorem dX10_credit_74 : decode cX10_credit 74 = .ok (.iload_n 1, 1) := by decide +kernel
theorem dX10_credit_75 : decode cX10_credit 75 = .ok (.imul, 1) := by decide +kernel
theorem dX10_credit_76 : decode cX10_credit 76 = .ok (.iadd, 1) := by decide +kernel
theorem dX10_credit_77 : decode cX10_credit 77 = .ok (.iaload, 1) := by decide +kernel
theorem dX10_credit_78 : decode cX10_credit 78 = .ok (.invokevirtual 45, 3) := by decide +kernel
theorem dX10_credit_81 : decode cX10_credit 81 = .ok (.ireturn, 1) := by decide +kernel
set_option maxRecDepth 20000 in
theorem ggX10_addPass_X10_noPool : GoodIn wsX10_addPass wsX10_noPool := goodIn_r _ [6, 1, 7, 8, 5, 9, 25, 26, 27, 28, 29, 30, 31, 32, 33, 34] (by decide +kernel) (by decide +kernel)
set_option maxRecDepth 20000 in
theorem gX10_addPass_X10_noPool : GoodIn wsX10_addPass (wsV RX10 56 RX10 yX10_noPool wsX10_noPool) := goodIn_app (goodIn_of _ (by decide +kernel)) ggX10_addPass_X10_noPool
set_option maxRecDepth 20000 in
theorem ggX10_addPass_X10_begin : GoodIn wsX10_addPass wsX10_begin := goodIn_r _ [13, 14, 1, 25, 26, 27, 28, 29, 30, 31, 32, 33, 34] (by decide +kernel) (by decide +kernel)
set_option maxRecDepth 20000 in
theorem gX10_addPass_X10_begin : GoodIn wsX10_addPass (wsV RX10 38 RX10 yX10_begin wsX10_begin) := goodIn_app (goodIn_of _ (by decide +kernel)) ggX10_addPass_X10_begin
set_option maxRecDepth 20000 in
theorem ggX10_addPass_X10_done : GoodIn wsX10_addPass wsX10_done := goodIn_r _ [18, 19, 20, 21, 5, 22, 23, 24, 14, 25, 26, 27, 28, 29, 30, 31, 32, 33, 34] (by decide +kernel) (by decide +kernel)
set_option maxRecDepth 20000 in
theorem gX10_addPass_X10_done : GoodIn wsX10_addPass (wsV RX10 45 RX10 yX10_done wsX10_done) := goodIn_app (goodIn_of _ (by decide +kernel)) ggX10_addPass_X10_done
theorem dX10_addPass_0 : decode cX10_addPass 0 = .ok (.aload_n 0, 1) := by decide +kernel
theorem dX10_addPass_1 : decode cX10_addPass 1 = .ok (.iload_n 1, 1) := by decide +kernel
theorem dX10_addPass_2 : decode cX10_addPass 2 = .ok (.invokevirtual 56, 3) := by decide +kernel
theorem dX10_addPass_5 : decode cX10_addPass 5 = .ok (.ifCond .eq 5, 3) := by decide +kernel
theorem dX10_addPass_8 : decode cX10_addPass 8 = .ok (.iconst (-1), 1) := by decide +kernel
theorem dX10_addPass_9 : decode cX10_addPass 9 = .ok (.ireturn, 1) := by decide +kernel
theorem dX10_addPass_10 : decode cX10_addPass 10 = .ok (.aload_n 0, 1) := by decide +kernel
theorem dX10_addPass_11 : decode cX10_addPass 11 = .ok (.getfield 7, 3) := by decide +kernel
theorem dX10_addPass_14 : decode cX10_addPass 14 = .ok (.iconst 3, 1) := by decide +kernel
theorem dX10_addPass_15 : decode cX10_addPass 15 = .ok (.iaload, 1) := by decide +kernel
theorem dX10_addPass_16 : decode cX10_addPass 16 = .ok (.bipush 12, 2) := by decide +kernel
theorem dX10_addPass_18 : decode cX10_addPass 18 = .ok (.if_icmp .ne 6, 3) := by decide +kernel
theorem dX10_addPass_21 : decode cX10_addPass 21 = .ok (.bipush (-3), 2) := by decide +kernel
theorem dX10_addPass_23 : decode cX10_addPass 23 = .ok (.ireturn, 1) := by decide +kernel
theorem dX10_addPass_24 : decode cX10_addPass 24 = .ok (.aload_n 0, 1) := by decide +kernel
theorem dX10_addPass_25 : decode cX10_addPass 25 = .ok (.invokevirtual 38, 3) := by decide +kernel
theorem dX10_addPass_28 : decode cX10_addPass 28 = .ok (.aload_n 0, 1) := by decide +kernel
theorem dX10_addPass_29 : decode cX10_addPass 29 = .ok (.getfield 7, 3) := by decide +kernel
theorem dX10_addPass_32 : decode cX10_addPass 32 = .ok (.sipush 400, 3) := by decide +kernel
theorem dX10_addPass_35 : decode cX10_addPass 35 = .ok (.iconst 2, 1) := by decide +kernel
theorem dX10_addPass_36 : decode cX10_addPass 36 = .ok (.aload_n 0, 1) := by decide +kernel
theorem dX10_addPass_37 : decode cX10_addPass 37 = .ok (.getfield 7, 3) := by decide +kernel
theorem dX10_addPass_40 : decode cX10_addPass 40 = .ok (.iconst 3, 1) := by decide +kernel
theorem dX10_addPass_41 : decode cX10_addPass 41 = .ok (.iaload, 1) := by decide +kernel
theorem dX10_addPass_42 : decode cX10_addPass 42 = .ok (.imul, 1) := by decide +kernel
theorem dX10_addPass_43 : decode cX10_addPass 43 = .ok (.iadd, 1) := by decide +kernel
theorem dX10_addPass_44 : decode cX10_addPass 44 = .ok (.iload_n 1, 1) := by decide +kernel
theorem dX10_addPass_45 : decode cX10_addPass 45 = .ok (.iastore, 1) := by decide +kernel
theorem dX10_addPass_46 : decode cX10_addPass 46 = .ok (.aload_n 0, 1) := by decide +kernel
theorem dX10_addPass_47 : decode cX10_addPass 47 = .ok (.getfield 7, 3) := by decide +kernel
theorem dX10_addPass_50 : decode cX10_addPass 50 = .ok (.sipush 400, 3) := by decide +kernel
theorem dX10_addPass_53 : decode cX10_addPass 53 = .ok (.iconst 2, 1) := by decide +kernel
theorem dX10_addPass_54 : decode cX10_addPass 54 = .ok (.aload_n 0, 1) := by decide +kernel
theorem dX10_addPass_55 : decode cX10_addPass 55 = .ok (.getfield 7, 3) := by decide +kernel
theorem dX10_addPass_58 : decode cX10_addPass 58 = .ok (.iconst 3, 1) := by decide +kernel
theorem dX10_addPass_59 : decode cX10_addPass 59 = .ok (.iaload, 1) := by decide +kernel
theorem dX10_addPass_60 : decode cX10_addPass 60 = .ok (.imul, 1) := by decide +kernel
theorem dX10_addPass_61 : decode cX10_addPass 61 = .ok (.iadd, 1) := by decide +kernel
theorem dX10_addPass_62 : decode cX10_addPass 62 = .ok (.iconst 1, 1) := by decide +kernel
theorem dX10_addPass_63 : decode cX10_addPass 63 = .ok (.iadd, 1) := by decide +kernel
theorem dX10_addPass_64 : decode cX10_addPass 64 = .ok (.iconst 0, 1) := by decide +kernel
theorem dX10_addPass_65 : decode cX10_addPass 65 = .ok (.iastore, 1) := by decide +kernel
theorem dX10_addPass_66 : decode cX10_addPass 66 = .ok (.aload_n 0, 1) := by decide +kernel
theorem dX10_addPass_67 : decode cX10_addPass 67 = .ok (.getfield 7, 3) := by decide +kernel
theorem dX10_addPass_70 : decode cX10_addPass 70 = .ok (.iconst 3, 1) := by decide +kernel
theorem dX10_addPass_71 : decode cX10_addPass 71 = .ok (.dup2, 1) := by decide +kernel
theorem dX10_addPass_72 : decode cX10_addPass 72 = .ok (.iaload, 1) := by decide +kernel
theorem dX10_addPass_73 : decode cX10_addPass 73 = .ok (.iconst 1, 1) := by decide +kernel
theorem dX10_addPass_74 : decode cX10_addPass 74 = .ok (.iadd, 1) := by decide +kernel
theorem dX10_addPass_75 : decode cX10_addPass 75 = .ok (.iastore, 1) := by decide +kernel
theorem dX10_addPass_76 : decode cX10_addPass 76 = .ok (.aload_n 0, 1) := by decide +kernel
theorem dX10_addPass_77 : decode cX10_addPass 77 = .ok (.aload_n 0, 1) := by decide +kernel
theorem dX10_addPass_78 : decode cX10_addPass 78 = .ok (.getfield 7, 3) := by decide +kernel
theorem dX10_addPass_81 : decode cX10_addPass 81 = .ok (.iconst 3, 1) := by decide +kernel
theorem dX10_addPass_82 : decode cX10_addPass 82 = .ok (.iaload, 1) := by decide +kernel
theorem dX10_addPass_83 : decode cX10_addPass 83 = .ok (.iconst 1, 1) := by decide +kernel
theorem dX10_addPass_84 : decode cX10_addPass 84 = .ok (.isub, 1) := by decide +kernel
theorem dX10_addPass_85 : decode cX10_addPass 85 = .ok (.invokevirtual 45, 3) := by decide +kernel
theorem dX10_addPass_88 : decode cX10_addPass 88 = .ok (.ireturn, 1) := by decide +kernel
set_option maxRecDepth 20000 in
theorem ggX10_block_X10_noPass : GoodIn wsX10_block wsX10_noPass := goodIn_r _ [6, 1, 7, 8, 5, 9, 25, 26, 27, 28, 29, 30, 31, 32, 33, 34] (by decide +kernel) (by decide +kernel)
set_option maxRecDepth 20000 in
theorem gX10_block_X10_noPass : GoodIn wsX10_block (wsV RX10 61 RX10 yX10_noPass wsX10_noPass) := goodIn_app (goodIn_of _ (by decide +kernel)) ggX10_block_X10_noPass
set_option maxRecDepth 20000 in
theorem ggX10_block_X10_begin : GoodIn wsX10_block wsX10_begin := goodIn_r _ [13, 14, 1, 25, 26, 27, 28, 29, 30, 31, 32, 33, 34] (by decide +kernel) (by decide +kernel)
set_option maxRecDepth 20000 in
theorem gX10_block_X10_begin : GoodIn wsX10_block (wsV RX10 38 RX10 yX10_begin wsX10_begin) := goodIn_app (goodIn_of _ (by decide +kernel)) ggX10_block_X10_begin
set_option maxRecDepth 20000 in
theorem ggX10_block_X10_done : GoodIn wsX10_block wsX10_done := goodIn_r _ [18, 19, 20, 21, 5, 22, 23, 24, 14, 25, 26, 27, 28, 29, 30, 31, 32, 33, 34] (by decide +kernel) (by decide +kernel)
set_option maxRecDepth 20000 in
theorem gX10_block_X10_done : GoodIn wsX10_block (wsV RX10 45 RX10 yX10_done wsX10_done) := goodIn_app (goodIn_of _ (by decide +kernel)) ggX10_block_X10_done
theorem dX10_block_0 : decode cX10_block 0 = .ok (.aload_n 0, 1) := by decide +kernel
theorem dX10_block_1 : decode cX10_block 1 = .ok (.iload_n 1, 1) := by decide +kernel
theorem dX10_block_2 : decode cX10_block 2 = .ok (.invokevirtual 61, 3) := by decide +kernel
theorem dX10_block_5 : decode cX10_block 5 = .ok (.ifCond .eq 5, 3) := by decide +kernel
theorem dX10_block_8 : decode cX10_block 8 = .ok (.iconst (-1), 1) := by decide +kernel
theorem dX10_block_9 : decode cX10_block 9 = .ok (.ireturn, 1) := by decide +kernel
theorem dX10_block_10 : decode cX10_block 10 = .ok (.iload_n 2, 1) := by decide +kernel
theorem dX10_block_11 : decode cX10_block 11 = .ok (.ifCond .eq 7, 3) := by decide +kernel
theorem dX10_block_14 : decode cX10_block 14 = .ok (.iconst 1, 1) := by decide +kernel
theorem dX10_block_15 : decode cX10_block 15 = .ok (.goto 4, 3) := by decide +kernel
theorem dX10_block_18 : decode cX10_block 18 = .ok (.iconst 0, 1) := by decide +kernel
theorem dX10_block_19 : decode cX10_block 19 = .ok (.istore_n 3, 1) := by decide +kernel
theorem dX10_block_20 : decode cX10_block 20 = .ok (.aload_n 0, 1) := by decide +kernel
theorem dX10_block_21 : decode cX10_block 21 = .ok (.getfield 7, 3) := by decide +kernel
theorem dX10_block_24 : decode cX10_block 24 = .ok (.sipush 400, 3) := by decide +kernel
theorem dX10_block_27 : decode cX10_block 27 = .ok (.iconst 2, 1) := by decide +kernel
theorem dX10_block_28 : decode cX10_block 28 = .ok (.iload_n 1, 1) := by decide +kernel
theorem dX10_block_29 : decode cX10_block 29 = .ok (.imul, 1) := by decide +kernel
theorem dX10_block_30 : decode cX10_block 30 = .ok (.iadd, 1) := by decide +kernel
theorem dX10_block_31 : decode cX10_block 31 = .ok (.iconst 1, 1) := by decide +kernel
theorem dX10_block_32 : decode cX10_block 32 = .ok (.iadd, 1) := by decide +kernel
theorem dX10_block_33 : decode cX10_block 33 = .ok (.iaload, 1) := by decide +kernel
theorem dX10_block_34 : decode cX10_block 34 = .ok (.iload_n 3, 1) := by decide +kernel
theorem dX10_block_35 : decode cX10_block 35 = .ok (.if_icmp .ne 6, 3) := by decide +kernel
theorem dX10_block_38 : decode cX10_block 38 = .ok (.bipush (-5), 2) := by decide +kernel
theorem dX10_block_40 : decode cX10_block 40 = .ok (.ireturn, 1) := by decide +kernel
theorem dX10_block_41 : decode cX10_block 41 = .ok (.aload_n 0, 1) := by decide +kernel
theorem dX10_block_42 : decode cX10_block 42 = .ok (.invokevirtual 38, 3) := by decide +kernel
theorem dX10_block_45 : decode cX10_block 45 = .ok (.aload_n 0, 1) := by decide +kernel
theorem dX10_block_46 : decode cX10_block 46 = .ok (.getfield 7, 3) := by decide +kernel
theorem dX10_block_49 : decode cX10_block 49 = .ok (.sipush 400, 3) := by decide +kernel
theorem dX10_block_52 : decode cX10_block 52 = .ok (.iconst 2, 1) := by decide +kernel
theorem dX10_block_53 : decode cX10_block 53 = .ok (.iload_n 1, 1) := by decide +kernel
theorem dX10_block_54 : decode cX10_block 54 = .ok (.imul, 1) := by decide +kernel
theorem dX10_block_55 : decode cX10_block 55 = .ok (.iadd, 1) := by decide +kernel
theorem dX10_block_56 : decode cX10_block 56 = .ok (.iconst 1, 1) := by decide +kernel
theorem dX10_block_57 : decode cX10_block 57 = .ok (.iadd, 1) := by decide +kernel
theorem dX10_block_58 : decode cX10_block 58 = .ok (.iload_n 3, 1) := by decide +kernel
theorem dX10_block_59 : decode cX10_block 59 = .ok (.iastore, 1) := by decide +kernel
theorem dX10_block_60 : decode cX10_block 60 = .ok (.iconst 0, 1) := by decide +kernel
theorem dX10_block_61 : decode cX10_block 61 = .ok (.istore 4, 2) := by decide +kernel
theorem dX10_block_63 : decode cX10_block 63 = .ok (.iconst 0, 1) := by decide +kernel
theorem dX10_block_64 : decode cX10_block 64 = .ok (.istore 5, 2) := by decide +kernel
theorem dX10_block_66 : decode cX10_block 66 = .ok (.iload 5, 2) := by decide +kernel
theorem dX10_block_68 : decode cX10_block 68 = .ok (.aload_n 0, 1) := by decide +kernel
theorem dX10_block_69 : decode cX10_block 69 = .ok (.getfield 7, 3) := by decide +kernel
theorem dX10_block_72 : decode cX10_block 72 = .ok (.iconst 3, 1) := by decide +kernel
theorem dX10_block_73 : decode cX10_block 73 = .ok (.iaload, 1) := by decide +kernel
theorem dX10_block_74 : decode cX10_block 74 = .ok (.if_icmp .ge 29, 3) := by decide +kernel
theorem dX10_block_77 : decode cX10_block 77 = .ok (.iload 4, 2) := by decide +kernel
theorem dX10_block_79 : decode cX10_block 79 = .ok (.aload_n 0, 1) := by decide +kernel
theorem dX10_block_80 : decode cX10_block 80 = .ok (.getfield 7, 3) := by decide +kernel
theorem dX10_block_83 : decode cX10_block 83 = .ok (.sipush 400, 3) := by decide +kernel
theorem dX10_block_86 : decode cX10_block 86 = .ok (.iconst 2, 1) := by decide +kernel
theorem dX10_block_87 : decode cX10_block 87 = .ok (.iload 5, 2) := by decide +kernel
theorem dX10_block_89 : decode cX10_block 89 = .ok (.imul, 1) := by decide +kernel
theorem dX10_block_90 : decode cX10_block 90 = .ok (.iadd, 1) := by decide +kernel
theorem dX10_block_91 : decode cX10_block 91 = .ok (.iconst 1, 1) := by decide +kernel
theorem dX10_block_92 : decode cX10_block 92 = .ok (.iadd, 1) := by decide +kernel
theorem dX10_block_93 : decode cX10_block 93 = .ok (.iaload, 1) := by decide +kernel
theorem dX10_block_94 : decode cX10_block 94 = .ok (.iadd, 1) := by decide +kernel
theorem dX10_block_95 : decode cX10_block 95 = .ok (.istore 4, 2) := by decide +kernel
theorem dX10_block_97 : decode cX10_block 97 = .ok (.iinc 5 1, 3) := by decide +kernel
theorem dX10_block_100 : decode cX10_block 100 = .ok (.goto (-34), 3) := by decide +kernel
theorem dX10_block_103 : decode cX10_block 103 = .ok (.aload_n 0, 1) := by decide +kernel
theorem dX10_block_104 : decode cX10_block 104 = .ok (.iload 4, 2) := by decide +kernel
theorem dX10_block_106 : decode cX10_block 106 = .ok (.invokevirtual 45, 3) := by decide +kernel
theorem dX10_block_109 : decode cX10_block 109 = .ok (.ireturn, 1) := by decide +kernel
set_option maxRecDepth 20000 in
theorem ggX10_setFare_X10_in : GoodIn wsX10_setFare wsX10_in := goodIn_r _ [5] (by decide +kernel) (by decide +kernel)
set_option maxRecDepth 20000 in
theorem gX10_setFare_X10_in : GoodIn wsX10_setFare (va_wsS RX10 34 yX10_in wsX10_in) := goodIn_app (goodIn_of _ (by decide +kernel)) ggX10_setFare_X10_in
set_option maxRecDepth 20000 in
theorem ggX10_setFare_X10_begin : GoodIn wsX10_setFare wsX10_begin := goodIn_r _ [9, 10, 1, 21, 22, 23, 24, 25, 26, 27, 28, 29, 30] (by decide +kernel) (by decide +kernel)
set_option maxRecDepth 20000 in
theorem gX10_setFare_X10_begin : GoodIn wsX10_setFare (wsV RX10 38 RX10 yX10_begin wsX10_begin) := goodIn_app (goodIn_of _ (by decide +kernel)) ggX10_setFare_X10_begin
set_option maxRecDepth 20000 in
theorem ggX10_setFare_X10_done : GoodIn wsX10_setFare wsX10_done := goodIn_r _ [14, 15, 16, 17, 4, 18, 19, 20, 10, 21, 22, 23, 24, 25, 26, 27, 28, 29, 30] (by decide +kernel) (by decide +kernel)
set_option maxRecDepth 20000 in
theorem gX10_setFare_X10_done : GoodIn wsX10_setFare (wsV RX10 45 RX10 yX10_done wsX10_done) := goodIn_app (goodIn_of _ (by decide +kernel)) ggX10_setFare_X10_done
theorem dX10_setFare_0 : decode cX10_setFare 0 = .ok (.iload_n 1, 1) := by decide +kernel
theorem dX10_setFare_1 : decode cX10_setFare 1 = .ok (.iconst 0, 1) := by decide +kernel
theorem dX10_setFare_2 : decode cX10_setFare 2 = .ok (.sipush 1000, 3) := by decide +kernel
theorem dX10_setFare_5 : decode cX10_setFare 5 = .ok (.invokestatic 34, 3) := by decide +kernel
theorem dX10_setFare_8 : decode cX10_setFare 8 = .ok (.ifCond .ne 6, 3) := by decide +kernel
theorem dX10_setFare_11 : decode cX10_setFare 11 = .ok (.bipush (-2), 2) := by decide +kernel
theorem dX10_setFare_13 : decode cX10_setFare 13 = .ok (.ireturn, 1) := by decide +kernel
theorem dX10_setFare_14 : decode cX10_setFare 14 = .ok (.aload_n 0, 1) := by decide +kernel
theorem dX10_setFare_15 : decode cX10_setFare 15 = .ok (.invokevirtual 38, 3) := by decide +kernel
theorem dX10_setFare_18 : decode cX10_setFare 18 = .ok (.aload_n 0, 1) := by decide +kernel
theorem dX10_setFare_19 : decode cX10_setFare 19 = .ok (.getfield 7, 3) := by decide +kernel
theorem dX10_setFare_22 : decode cX10_setFare 22 = .ok (.bipush 6, 2) := by decide +kernel
theorem dX10_setFare_24 : decode cX10_setFare 24 = .ok (.iaload, 1) := by decide +kernel
theorem dX10_setFare_25 : decode cX10_setFare 25 = .ok (.istore_n 2, 1) := by decide +kernel
theorem dX10_setFare_26 : decode cX10_setFare 26 = .ok (.aload_n 0, 1) := by decide +kernel
theorem dX10_setFare_27 : decode cX10_setFare 27 = .ok (.getfield 7, 3) := by decide +kernel
theorem dX10_setFare_30 : decode cX10_setFare 30 = .ok (.bipush 6, 2) := by decide +kernel
theorem dX10_setFare_32 : decode cX10_setFare 32 = .ok (.iload_n 1, 1) := by decide +kernel
theorem dX10_setFare_33 : decode cX10_setFare 33 = .ok (.iastore, 1) := by decide +kernel
theorem dX10_setFare_34 : decode cX10_setFare 34 = .ok (.aload_n 0, 1) := by decide +kernel
theorem dX10_setFare_35 : decode cX10_setFare 35 = .ok (.iload_n 2, 1) := by decide +kernel
theorem dX10_setFare_36 : decode cX10_setFare 36 = .ok (.invokevirtual 45, 3) := by decide +kernel
theorem dX10_setFare_39 : decode cX10_setFare 39 = .ok (.ireturn, 1) := by decide +kernel
set_option maxRecDepth 20000 in
theorem ggX10_isQueued_X10_of : GoodIn wsX10_isQueued wsX10_of := goodIn_r _ [5, 6, 7, 8, 9, 10, 11, 12, 13, 14, 15, 16] (by decide +kernel) (by decide +kernel)
set_option maxRecDepth 20000 in
theorem gX10_isQueued_X10_of : GoodIn wsX10_isQueued (wsV RX10 64 RX10 yX10_of wsX10_of) := goodIn_app (goodIn_of _ (by decide +kernel)) ggX10_isQueued_X10_of
theorem dX10_isQueued_0 : decode cX10_isQueued 0 = .ok (.aload_n 0, 1) := by decide +kernel
theorem dX10_isQueued_1 : decode cX10_isQueued 1 = .ok (.iload_n 1, 1) := by decide +kernel
theorem dX10_isQueued_2 : decode cX10_isQueued 2 = .ok (.iconst 3, 1) := by decide +kernel
theorem dX10_isQueued_3 : decode cX10_isQueued 3 = .ok (.invokevirtual 64, 3) := by decide +kernel
theorem dX10_isQueued_6 : decode cX10_isQueued 6 = .ok (.iload_n 2, 1) := by decide +kernel
theorem dX10_isQueued_7 : decode cX10_isQueued 7 = .ok (.if_icmp .ne 25, 3) := by decide +kernel
theorem dX10_isQueued_10 : decode cX10_isQueued 10 = .ok (.aload_n 0, 1) := by decide +kernel
theorem dX10_isQueued_11 : decode cX10_isQueued 11 = .ok (.iload_n 1, 1) := by decide +kernel
theorem dX10_isQueued_12 : decode cX10_isQueued 12 = .ok (.iconst 0, 1) := by decide +kernel
theorem dX10_isQueued_13 : decode cX10_isQueued 13 = .ok (.invokevirtual 64, 3) := by decide +kernel
theorem dX10_isQueued_16 : decode cX10_isQueued 16 = .ok (.iload_n 3, 1) := by decide +kernel
theorem dX10_isQueued_17 : decode cX10_isQueued 17 = .ok (.ifCond .ne 7, 3) := by decide +kernel
theorem dX10_isQueued_20 : decode cX10_isQueued 20 = .ok (.iconst 1, 1) := by decide +kernel
theorem dX10_isQueued_21 : decode cX10_isQueued 21 = .ok (.goto 4, 3) := by decide +kernel
theorem dX10_isQueued_24 : decode cX10_isQueued 24 = .ok (.iconst 4, 1) := by decide +kernel
theorem dX10_isQueued_25 : decode cX10_isQueued 25 = .ok (.if_icmp .ne 7, 3) := by decide +kernel
theorem dX10_isQueued_28 : decode cX10_isQueued 28 = .ok (.iconst 1, 1) := by decide +kernel
theorem dX10_isQueued_29 : decode cX10_isQueued 29 = .ok (.goto 4, 3) := by decide +kernel
theorem dX10_isQueued_32 : decode cX10_isQueued 32 = .ok (.iconst 0, 1) := by decide +kernel
theorem dX10_isQueued_33 : decode cX10_isQueued 33 = .ok (.ireturn, 1) := by decide +kernel
set_option maxRecDepth 20000 in
theorem ggX10_queueLength_X10_isQueued : GoodIn wsX10_queueLength wsX10_isQueued := goodIn_r _ [6, 7, 8, 9, 5, 10, 1, 11, 12, 13, 14, 15, 16, 17, 18, 19, 20] (by decide +kernel) (by decide +kernel)
set_option maxRecDepth 20000 in
theorem gX10_queueLength_X10_isQueued : GoodIn wsX10_queueLength (wsV RX10 67 RX10 yX10_isQueued wsX10_isQueued) := goodIn_app (goodIn_of _ (by decide +kernel)) ggX10_queueLength_X10_isQueued
theorem dX10_queueLength_0 : decode cX10_queueLength 0 = .ok (.iconst 0, 1) := by decide +kernel
theorem dX10_queueLength_1 : decode cX10_queueLength 1 = .ok (.istore_n 3, 1) := by decide +kernel
theorem dX10_queueLength_2 : decode cX10_queueLength 2 = .ok (.iconst 0, 1) := by decide +kernel
theorem dX10_queueLength_3 : decode cX10_queueLength 3 = .ok (.istore 4, 2) := by decide +kernel
theorem dX10_queueLength_5 : decode cX10_queueLength 5 = .ok (.iload 4, 2) := by decide +kernel
theorem dX10_queueLength_7 : decode cX10_queueLength 7 = .ok (.aload_n 0, 1) := by decide +kernel
theorem dX10_queueLength_8 : decode cX10_queueLength 8 = .ok (.getfield 7, 3) := by decide +kernel
theorem dX10_queueLength_11 : decode cX10_queueLength 11 = .ok (.iconst 2, 1) := by decide +kernel
theorem dX10_queueLength_12 : decode cX10_queueLength 12 = .ok (.iaload, 1) := by decide +kernel
theorem dX10_queueLength_13 : decode cX10_queueLength 13 = .ok (.if_icmp .ge 28, 3) := by decide +kernel
theorem dX10_queueLength_16 : decode cX10_queueLength 16 = .ok (.iload_n 3, 1) := by decide +kernel
theorem dX10_queueLength_17 : decode cX10_queueLength 17 = .ok (.aload_n 0, 1) := by decide +kernel
theorem dX10_queueLength_18 : decode cX10_queueLength 18 = .ok (.iload 4, 2) := by decide +kernel
theorem dX10_queueLength_20 : decode cX10_queueLength 20 = .ok (.iload_n 1, 1) := by decide +kernel
theorem dX10_queueLength_21 : decode cX10_queueLength 21 = .ok (.iload_n 2, 1) := by decide +kernel
theorem dX10_queueLength_22 : decode cX10_queueLength 22 = .ok (.invokevirtual 67, 3) := by decide +kernel
theorem dX10_queueLength_25 : decode cX10_queueLength 25 = .ok (.ifCond .eq 7, 3) := by decide +kernel
theorem dX10_queueLength_28 : decode cX10_queueLength 28 = .ok (.iconst 1, 1) := by decide +kernel
theorem dX10_queueLength_29 : decode cX10_queueLength 29 = .ok (.goto 4, 3) := by decide +kernel
theorem dX10_queueLength_32 : decode cX10_queueLength 32 = .ok (.iconst 0, 1) := by decide +kernel
theorem dX10_queueLength_33 : decode cX10_queueLength 33 = .ok (.iadd, 1) := by decide +kernel
theorem dX10_queueLength_34 : decode cX10_queueLength 34 = .ok (.istore_n 3, 1) := by decide +kernel
theorem dX10_queueLength_35 : decode cX10_queueLength 35 = .ok (.iinc 4 1, 3) := by decide +kernel
theorem dX10_queueLength_38 : decode cX10_queueLength 38 = .ok (.goto (-33), 3) := by decide +kernel
theorem dX10_queueLength_41 : decode cX10_queueLength 41 = .ok (.iload_n 3, 1) := by decide +kernel
theorem dX10_queueLength_42 : decode cX10_queueLength 42 = .ok (.ireturn, 1) := by decide +kernel
set_option maxRecDepth 20000 in
theorem ggX10_queuedAt_X10_isQueued : GoodIn wsX10_queuedAt wsX10_isQueued := goodIn_r _ [6, 7, 8, 9, 5, 10, 1, 11, 12, 13, 14, 15, 16, 17, 18, 19, 20] (by decide +kernel) (by decide +kernel)
set_option maxRecDepth 20000 in
theorem gX10_queuedAt_X10_isQueued : GoodIn wsX10_queuedAt (wsV RX10 67 RX10 yX10_isQueued wsX10_isQueued) := goodIn_app (goodIn_of _ (by decide +kernel)) ggX10_queuedAt_X10_isQueued
set_option maxRecDepth 20000 in
theorem ggX10_queuedAt_X10_of : GoodIn wsX10_queuedAt wsX10_of := goodIn_r _ [10, 1, 11, 12, 13, 14, 15, 16, 17, 18, 19, 20] (by decide +kernel) (by decide +kernel)
set_option maxRecDepth 20000 in
theorem gX10_queuedAt_X10_of : GoodIn wsX10_queuedAt (wsV RX10 64 RX10 yX10_of wsX10_of) := goodIn_app (goodIn_of _ (by decide +kernel)) ggX10_queuedAt_X10_of
theorem dX10_queuedAt_0 : decode cX10_queuedAt 0 = .ok (.iconst 0, 1) := by decide +kernel
theorem dX10_queuedAt_1 : decode cX10_queuedAt 1 = .ok (.istore 4, 2) := by decide +kernel
theorem dX10_queuedAt_3 : decode cX10_queuedAt 3 = .ok (.iload 4, 2) := by decide +kernel
theorem dX10_queuedAt_5 : decode cX10_queuedAt 5 = .ok (.aload_n 0, 1) := by decide +kernel
theorem dX10_queuedAt_6 : decode cX10_queuedAt 6 = .ok (.getfield 7, 3) := by decide +kernel
theorem dX10_queuedAt_9 : decode cX10_queuedAt 9 = .ok (.iconst 2, 1) := by decide +kernel
theorem dX10_queuedAt_10 : decode cX10_queuedAt 10 = .ok (.iaload, 1) := by decide +kernel
theorem dX10_queuedAt_11 : decode cX10_queuedAt 11 = .ok (.if_icmp .ge 92, 3) := by decide +kernel
theorem dX10_queuedAt_14 : decode cX10_queuedAt 14 = .ok (.iconst 0, 1) := by decide +kernel
theorem dX10_queuedAt_15 : decode cX10_queuedAt 15 = .ok (.istore 5, 2) := by decide +kernel
theorem dX10_queuedAt_17 : decode cX10_queuedAt 17 = .ok (.iconst 0, 1) := by decide +kernel
theorem dX10_queuedAt_18 : decode cX10_queuedAt 18 = .ok (.istore 6, 2) := by decide +kernel
theorem dX10_queuedAt_20 : decode cX10_queuedAt 20 = .ok (.iload 6, 2) := by decide +kernel
theorem dX10_queuedAt_22 : decode cX10_queuedAt 22 = .ok (.aload_n 0, 1) := by decide +kernel
theorem dX10_queuedAt_23 : decode cX10_queuedAt 23 = .ok (.getfield 7, 3) := by decide +kernel
theorem dX10_queuedAt_26 : decode cX10_queuedAt 26 = .ok (.iconst 2, 1) := by decide +kernel
theorem dX10_queuedAt_27 : decode cX10_queuedAt 27 = .ok (.iaload, 1) := by decide +kernel
theorem dX10_queuedAt_28 : decode cX10_queuedAt 28 = .ok (.if_icmp .ge 49, 3) := by decide +kernel
theorem dX10_queuedAt_31 : decode cX10_queuedAt 31 = .ok (.iload 5, 2) := by decide +kernel
theorem dX10_queuedAt_33 : decode cX10_queuedAt 33 = .ok (.aload_n 0, 1) := by decide +kernel
theorem dX10_queuedAt_34 : decode cX10_queuedAt 34 = .ok (.iload 6, 2) := by decide +kernel
theorem dX10_queuedAt_36 : decode cX10_queuedAt 36 = .ok (.iload_n 1, 1) := by decide +kernel
theorem dX10_queuedAt_37 : decode cX10_queuedAt 37 = .ok (.iload_n 2, 1) := by decide +kernel
theorem dX10_queuedAt_38 : decode cX10_queuedAt 38 = .ok (.invokevirtual 67, 3) := by decide +kernel
theorem dX10_queuedAt_41 : decode cX10_queuedAt 41 = .ok (.ifCond .eq 26, 3) := by decide +kernel
theorem dX10_queuedAt_44 : decode cX10_queuedAt 44 = .ok (.aload_n 0, 1) := by decide +kernel
theorem dX10_queuedAt_45 : decode cX10_queuedAt 45 = .ok (.iload 6, 2) := by decide +kernel
theorem dX10_queuedAt_47 : decode cX10_queuedAt 47 = .ok (.bipush 6, 2) := by decide +kernel
theorem dX10_queuedAt_49 : decode cX10_queuedAt 49 = .ok (.invokevirtual 64, 3) := by decide +kernel
theorem dX10_queuedAt_52 : decode cX10_queuedAt 52 = .ok (.aload_n 0, 1) := by decide +kernel
theorem dX10_queuedAt_53 : decode cX10_queuedAt 53 = .ok (.iload 4, 2) := by decide +kernel
theorem dX10_queuedAt_55 : decode cX10_queuedAt 55 = .ok (.bipush 6, 2) := by decide +kernel
theorem dX10_queuedAt_57 : decode cX10_queuedAt 57 = .ok (.invokevirtual 64, 3) := by decide +kernel
theorem dX10_queuedAt_60 : decode cX10_queuedAt 60 = .ok (.if_icmp .ge 7, 3) := by decide +kernel
theorem dX10_queuedAt_63 : decode cX10_queuedAt 63 = .ok (.iconst 1, 1) := by decide +kernel
theorem dX10_queuedAt_64 : decode cX10_queuedAt 64 = .ok (.goto 4, 3) := by decide +kernel
theorem dX10_queuedAt_67 : decode cX10_queuedAt 67 = .ok (.iconst 0, 1) := by decide +kernel
theorem dX10_queuedAt_68 : decode cX10_queuedAt 68 = .ok (.iadd, 1) := by decide +kernel
theorem dX10_queuedAt_69 : decode cX10_queuedAt 69 = .ok (.istore 5, 2) := by decide +kernel
theorem dX10_queuedAt_71 : decode cX10_queuedAt 71 = .ok (.iinc 6 1, 3) := by decide +kernel
theorem dX10_queuedAt_74 : decode cX10_queuedAt 74 = .ok (.goto (-54), 3) := by decide +kernel
theorem dX10_queuedAt_77 : decode cX10_queuedAt 77 = .ok (.aload_n 0, 1) := by decide +kernel
theorem dX10_queuedAt_78 : decode cX10_queuedAt 78 = .ok (.iload 4, 2) := by decide +kernel
theorem dX10_queuedAt_80 : decode cX10_queuedAt 80 = .ok (.iload_n 1, 1) := by decide +kernel
theorem dX10_queuedAt_81 : decode cX10_queuedAt 81 = .ok (.iload_n 2, 1) := by decide +kernel
theorem dX10_queuedAt_82 : decode cX10_queuedAt 82 = .ok (.invokevirtual 67, 3) := by decide +kernel
theorem dX10_queuedAt_85 : decode cX10_queuedAt 85 = .ok (.ifCond .eq 12, 3) := by decide +kernel
theorem dX10_queuedAt_88 : decode cX10_queuedAt 88 = .ok (.iload 5, 2) := by decide +kernel
theorem dX10_queuedAt_90 : decode cX10_queuedAt 90 = .ok (.iload_n 3, 1) := by decide +kernel
theorem dX10_queuedAt_91 : decode cX10_queuedAt 91 = .ok (.if_icmp .ne 6, 3) := by decide +kernel
theorem dX10_queuedAt_94 : decode cX10_queuedAt 94 = .ok (.iload 4, 2) := by decide +kernel
theorem dX10_queuedAt_96 : decode cX10_queuedAt 96 = .ok (.ireturn, 1) := by decide +kernel
theorem dX10_queuedAt_97 : decode cX10_queuedAt 97 = .ok (.iinc 4 1, 3) := by decide +kernel
theorem dX10_queuedAt_100 : decode cX10_queuedAt 100 = .ok (.goto (-97), 3) := by decide +kernel
theorem dX10_queuedAt_103 : decode cX10_queuedAt 103 = .ok (.bipush (-5), 2) := by decide +kernel
theorem dX10_queuedAt_105 : decode cX10_queuedAt 105 = .ok (.ireturn, 1) := by decide +kernel
set_option maxRecDepth 20000 in
theorem ggX10_queue_X10_put : GoodIn wsX10_queue wsX10_put := goodIn_r _ [6, 1, 7, 8, 9, 10, 11, 12, 13, 14, 15, 16] (by decide +kernel) (by decide +kernel)
set_option maxRecDepth 20000 in
theorem gX10_queue_X10_put : GoodIn wsX10_queue (wsV RX10 70 RX10 yX10_put wsX10_put) := goodIn_app (goodIn_of _ (by decide +kernel)) ggX10_queue_X10_put
theorem dX10_queue_0 : decode cX10_queue 0 = .ok (.aload_n 0, 1) := by decide +kernel
theorem dX10_queue_1 : decode cX10_queue 1 = .ok (.iload_n 1, 1) := by decide +kernel
theorem dX10_queue_2 : decode cX10_queue 2 = .ok (.iconst 0, 1) := by decide +kernel
theorem dX10_queue_3 : decode cX10_queue 3 = .ok (.iload_n 3, 1) := by decide +kernel
theorem dX10_queue_4 : decode cX10_queue 4 = .ok (.invokevirtual 70, 3) := by decide +kernel
theorem dX10_queue_7 : decode cX10_queue 7 = .ok (.aload_n 0, 1) := by decide +kernel
theorem dX10_queue_8 : decode cX10_queue 8 = .ok (.iload_n 1, 1) := by decide +kernel
theorem dX10_queue_9 : decode cX10_queue 9 = .ok (.iconst 3, 1) := by decide +kernel
theorem dX10_queue_10 : decode cX10_queue 10 = .ok (.iload_n 2, 1) := by decide +kernel
theorem dX10_queue_11 : decode cX10_queue 11 = .ok (.invokevirtual 70, 3) := by decide +kernel
theorem dX10_queue_14 : decode cX10_queue 14 = .ok (.aload_n 0, 1) := by decide +kernel
theorem dX10_queue_15 : decode cX10_queue 15 = .ok (.iload_n 1, 1) := by decide +kernel
theorem dX10_queue_16 : decode cX10_queue 16 = .ok (.bipush 6, 2) := by decide +kernel
theorem dX10_queue_18 : decode cX10_queue 18 = .ok (.aload_n 0, 1) := by decide +kernel
theorem dX10_queue_19 : decode cX10_queue 19 = .ok (.getfield 7, 3) := by decide +kernel
theorem dX10_queue_22 : decode cX10_queue 22 = .ok (.bipush 7, 2) := by decide +kernel
theorem dX10_queue_24 : decode cX10_queue 24 = .ok (.iaload, 1) := by decide +kernel
theorem dX10_queue_25 : decode cX10_queue 25 = .ok (.invokevirtual 70, 3) := by decide +kernel
theorem dX10_queue_28 : decode cX10_queue 28 = .ok (.aload_n 0, 1) := by decide +kernel
theorem dX10_queue_29 : decode cX10_queue 29 = .ok (.getfield 7, 3) := by decide +kernel
theorem dX10_queue_32 : decode cX10_queue 32 = .ok (.bipush 7, 2) := by decide +kernel
theorem dX10_queue_34 : decode cX10_queue 34 = .ok (.dup2, 1) := by decide +kernel
theorem dX10_queue_35 : decode cX10_queue 35 = .ok (.iaload, 1) := by decide +kernel
theorem dX10_queue_36 : decode cX10_queue 36 = .ok (.iconst 1, 1) := by decide +kernel
theorem dX10_queue_37 : decode cX10_queue 37 = .ok (.iadd, 1) := by decide +kernel
theorem dX10_queue_38 : decode cX10_queue 38 = .ok (.iastore, 1) := by decide +kernel
theorem dX10_queue_39 : decode cX10_queue 39 = .ok (.return_, 1) := by decide +kernel
set_option maxRecDepth 20000 in
theorem ggX10_doEnter_X10_noGate : GoodIn wsX10_doEnter wsX10_noGate := goodIn_r _ [6, 1, 7, 8, 5, 9, 22, 23, 24, 25, 26, 27, 28, 29, 30, 31] (by decide +kernel) (by decide +kernel)
set_option maxRecDepth 20000 in
theorem gX10_doEnter_X10_noGate : GoodIn wsX10_doEnter (wsV RX10 48 RX10 yX10_noGate wsX10_noGate) := goodIn_app (goodIn_of _ (by decide +kernel)) ggX10_doEnter_X10_noGate
set_option maxRecDepth 20000 in
theorem ggX10_doEnter_X10_noPass : GoodIn wsX10_doEnter wsX10_noPass := goodIn_r _ [13, 1, 7, 8, 5, 9, 22, 23, 24, 25, 26, 27, 28, 29, 30, 31] (by decide +kernel) (by decide +kernel)
set_option maxRecDepth 20000 in
theorem gX10_doEnter_X10_noPass : GoodIn wsX10_doEnter (wsV RX10 61 RX10 yX10_noPass wsX10_noPass) := goodIn_app (goodIn_of _ (by decide +kernel)) ggX10_doEnter_X10_noPass
set_option maxRecDepth 20000 in
theorem ggX10_doEnter_X10_put : GoodIn wsX10_doEnter wsX10_put := goodIn_r _ [17, 1, 22, 23, 24, 25, 26, 27, 28, 29, 30, 31] (by decide +kernel) (by decide +kernel)
set_option maxRecDepth 20000 in
theorem gX10_doEnter_X10_put : GoodIn wsX10_doEnter (wsV RX10 70 RX10 yX10_put wsX10_put) := goodIn_app (goodIn_of _ (by decide +kernel)) ggX10_doEnter_X10_put
set_option maxRecDepth 20000 in
theorem ggX10_doEnter_X10_queue : GoodIn wsX10_doEnter wsX10_queue := goodIn_r _ [21, 1, 14, 15, 16, 5, 17, 22, 23, 24, 25, 26, 27, 28, 29, 30, 31] (by decide +kernel) (by decide +kernel)
set_option maxRecDepth 20000 in
theorem gX10_doEnter_X10_queue : GoodIn wsX10_doEnter (wsV RX10 73 RX10 yX10_queue wsX10_queue) := goodIn_app (goodIn_of _ (by decide +kernel)) ggX10_doEnter_X10_queue
theorem dX10_doEnter_0 : decode cX10_doEnter 0 = .ok (.aload_n 0, 1) := by decide +kernel
theorem dX10_doEnter_1 : decode cX10_doEnter 1 = .ok (.iload_n 1, 1) := by decide +kernel
theorem dX10_doEnter_2 : decode cX10_doEnter 2 = .ok (.invokevirtual 48, 3) := by decide +kernel
theorem dX10_doEnter_5 : decode cX10_doEnter 5 = .ok (.ifCond .ne 16, 3) := by decide +kernel
theorem dX10_doEnter_8 : decode cX10_doEnter 8 = .ok (.iload_n 2, 1) := by decide +kernel
theorem dX10_doEnter_9 : decode cX10_doEnter 9 = .ok (.iconst (-1), 1) := by decide +kernel
theorem dX10_doEnter_10 : decode cX10_doEnter 10 = .ok (.if_icmp .eq 13, 3) := by decide +kernel
theorem dX10_doEnter_13 : decode cX10_doEnter 13 = .ok (.aload_n 0, 1) := by decide +kernel
theorem dX10_doEnter_14 : decode cX10_doEnter 14 = .ok (.iload_n 2, 1) := by decide +kernel
theorem dX10_doEnter_15 : decode cX10_doEnter 15 = .ok (.invokevirtual 61, 3) := by decide +kernel
theorem dX10_doEnter_18 : decode cX10_doEnter 18 = .ok (.ifCond .eq 5, 3) := by decide +kernel
theorem dX10_doEnter_21 : decode cX10_doEnter 21 = .ok (.iconst (-1), 1) := by decide +kernel
theorem dX10_doEnter_22 : decode cX10_doEnter 22 = .ok (.ireturn, 1) := by decide +kernel
theorem dX10_doEnter_23 : decode cX10_doEnter 23 = .ok (.aload_n 0, 1) := by decide +kernel
theorem dX10_doEnter_24 : decode cX10_doEnter 24 = .ok (.getfield 7, 3) := by decide +kernel
theorem dX10_doEnter_27 : decode cX10_doEnter 27 = .ok (.iconst 2, 1) := by decide +kernel
theorem dX10_doEnter_28 : decode cX10_doEnter 28 = .ok (.iaload, 1) := by decide +kernel
theorem dX10_doEnter_29 : decode cX10_doEnter 29 = .ok (.bipush 40, 2) := by decide +kernel
theorem dX10_doEnter_31 : decode cX10_doEnter 31 = .ok (.if_icmp .ne 6, 3) := by decide +kernel
theorem dX10_doEnter_34 : decode cX10_doEnter 34 = .ok (.bipush (-3), 2) := by decide +kernel
theorem dX10_doEnter_36 : decode cX10_doEnter 36 = .ok (.ireturn, 1) := by decide +kernel
theorem dX10_doEnter_37 : decode cX10_doEnter 37 = .ok (.aload_n 0, 1) := by decide +kernel
theorem dX10_doEnter_38 : decode cX10_doEnter 38 = .ok (.getfield 7, 3) := by decide +kernel
theorem dX10_doEnter_41 : decode cX10_doEnter 41 = .ok (.iconst 2, 1) := by decide +kernel
theorem dX10_doEnter_42 : decode cX10_doEnter 42 = .ok (.iaload, 1) := by decide +kernel
theorem dX10_doEnter_43 : decode cX10_doEnter 43 = .ok (.istore 4, 2) := by decide +kernel
theorem dX10_doEnter_45 : decode cX10_doEnter 45 = .ok (.aload_n 0, 1) := by decide +kernel
theorem dX10_doEnter_46 : decode cX10_doEnter 46 = .ok (.getfield 7, 3) := by decide +kernel
theorem dX10_doEnter_49 : decode cX10_doEnter 49 = .ok (.iconst 2, 1) := by decide +kernel
theorem dX10_doEnter_50 : decode cX10_doEnter 50 = .ok (.dup2, 1) := by decide +kernel
theorem dX10_doEnter_51 : decode cX10_doEnter 51 = .ok (.iaload, 1) := by decide +kernel
theorem dX10_doEnter_52 : decode cX10_doEnter 52 = .ok (.iconst 1, 1) := by decide +kernel
theorem dX10_doEnter_53 : decode cX10_doEnter 53 = .ok (.iadd, 1) := by decide +kernel
theorem dX10_doEnter_54 : decode cX10_doEnter 54 = .ok (.iastore, 1) := by decide +kernel
theorem dX10_doEnter_55 : decode cX10_doEnter 55 = .ok (.aload_n 0, 1) := by decide +kernel
theorem dX10_doEnter_56 : decode cX10_doEnter 56 = .ok (.iload 4, 2) := by decide +kernel
theorem dX10_doEnter_58 : decode cX10_doEnter 58 = .ok (.iconst 1, 1) := by decide +kernel
theorem dX10_doEnter_59 : decode cX10_doEnter 59 = .ok (.iload_n 2, 1) := by decide +kernel
theorem dX10_doEnter_60 : decode cX10_doEnter 60 = .ok (.iconst (-1), 1) := by decide +kernel
theorem dX10_doEnter_61 : decode cX10_doEnter 61 = .ok (.if_icmp .ne 8, 3) := by decide +kernel
theorem dX10_doEnter_64 : decode cX10_doEnter 64 = .ok (.bipush (-5), 2) := by decide +kernel
theorem dX10_doEnter_66 : decode cX10_doEnter 66 = .ok (.goto 4, 3) := by decide +kernel
theorem dX10_doEnter_69 : decode cX10_doEnter 69 = .ok (.iload_n 2, 1) := by decide +kernel
theorem dX10_doEnter_70 : decode cX10_doEnter 70 = .ok (.invokevirtual 70, 3) := by decide +kernel
theorem dX10_doEnter_73 : decode cX10_doEnter 73 = .ok (.aload_n 0, 1) := by decide +kernel
theorem dX10_doEnter_74 : decode cX10_doEnter 74 = .ok (.iload 4, 2) := by decide +kernel
theorem dX10_doEnter_76 : decode cX10_doEnter 76 = .ok (.iconst 2, 1) := by decide +kernel
theorem dX10_doEnter_77 : decode cX10_doEnter 77 = .ok (.iload_n 3, 1) := by decide +kernel
theorem dX10_doEnter_78 : decode cX10_doEnter 78 = .ok (.ifCond .eq 7, 3) := by decide +kernel
theorem dX10_doEnter_81 : decode cX10_doEnter 81 = .ok (.iconst 1, 1) := by decide +kernel
theorem dX10_doEnter_82 : decode cX10_doEnter 82 = .ok (.goto 4, 3) := by decide +kernel
theorem dX10_doEnter_85 : decode cX10_doEnter 85 = .ok (.iconst 0, 1) := by decide +kernel
theorem dX10_doEnter_86 : decode cX10_doEnter 86 = .ok (.invokevirtual 70, 3) := by decide +kernel
theorem dX10_doEnter_89 : decode cX10_doEnter 89 = .ok (.aload_n 0, 1) := by decide +kernel
theorem dX10_doEnter_90 : decode cX10_doEnter 90 = .ok (.iload 4, 2) := by decide +kernel
theorem dX10_doEnter_92 : decode cX10_doEnter 92 = .ok (.iconst 4, 1) := by decide +kernel
theorem dX10_doEnter_93 : decode cX10_doEnter 93 = .ok (.iconst 0, 1) := by decide +kernel
theorem dX10_doEnter_94 : decode cX10_doEnter 94 = .ok (.invokevirtual 70, 3) := by decide +kernel
theorem dX10_doEnter_97 : decode cX10_doEnter 97 = .ok (.aload_n 0, 1) := by decide +kernel
theorem dX10_doEnter_98 : decode cX10_doEnter 98 = .ok (.iload 4, 2) := by decide +kernel
theorem dX10_doEnter_100 : decode cX10_doEnter 100 = .ok (.iconst 5, 1) := by decide +kernel
theorem dX10_doEnter_101 : decode cX10_doEnter 101 = .ok (.aload_n 0, 1) := by decide +kernel
theorem dX10_doEnter_102 : decode cX10_doEnter 102 = .ok (.getfield 7, 3) := by decide +kernel
theorem dX10_doEnter_105 : decode cX10_doEnter 105 = .ok (.iconst 0, 1) := by decide +kernel
theorem dX10_doEnter_106 : decode cX10_doEnter 106 = .ok (.iaload, 1) := by decide +kernel
theorem dX10_doEnter_107 : decode cX10_doEnter 107 = .ok (.invokevirtual 70, 3) := by decide +kernel
theorem dX10_doEnter_110 : decode cX10_doEnter 110 = .ok (.aload_n 0, 1) := by decide +kernel
theorem dX10_doEnter_111 : decode cX10_doEnter 111 = .ok (.iload 4, 2) := by decide +kernel
theorem dX10_doEnter_113 : decode cX10_doEnter 113 = .ok (.iload_n 1, 1) := by decide +kernel
theorem dX10_doEnter_114 : decode cX10_doEnter 114 = .ok (.iconst 1, 1) := by decide +kernel
theorem dX10_doEnter_115 : decode cX10_doEnter 115 = .ok (.invokevirtual 73, 3) := by decide +kernel
theorem dX10_doEnter_118 : decode cX10_doEnter 118 = .ok (.iload 4, 2) := by decide +kernel
theorem dX10_doEnter_120 : decode cX10_doEnter 120 = .ok (.ireturn, 1) := by decide +kernel
set_option maxRecDepth 20000 in
theorem ggX10_enter_X10_begin : GoodIn wsX10_enter wsX10_begin := goodIn_r _ [5, 6, 7, 41, 42, 43, 44, 45, 46, 47, 48, 49, 50] (by decide +kernel) (by decide +kernel)
set_option maxRecDepth 20000 in
theorem gX10_enter_X10_begin : GoodIn wsX10_enter (wsV RX10 38 RX10 yX10_begin wsX10_begin) := goodIn_app (goodIn_of _ (by decide +kernel)) ggX10_enter_X10_begin
set_option maxRecDepth 20000 in
theorem ggX10_enter_X10_doEnter : GoodIn wsX10_enter wsX10_doEnter := goodIn_r _ [11, 7, 12, 13, 14, 4, 15, 16, 17, 18, 19, 20, 21, 22, 23, 24, 25, 26, 27, 28, 29, 30, 41, 42, 43, 44, 45, 46, 47, 48, 49, 50] (by decide +kernel) (by decide +kernel)
set_option maxRecDepth 20000 in
theorem gX10_enter_X10_doEnter : GoodIn wsX10_enter (wsV RX10 76 RX10 yX10_doEnter wsX10_doEnter) := goodIn_app (goodIn_of _ (by decide +kernel)) ggX10_enter_X10_doEnter
set_option maxRecDepth 20000 in
theorem ggX10_enter_X10_done : GoodIn wsX10_enter wsX10_done := goodIn_r _ [34, 35, 36, 37, 4, 38, 39, 40, 6, 41, 42, 43, 44, 45, 46, 47, 48, 49, 50] (by decide +kernel) (by decide +kernel)
set_option maxRecDepth 20000 in
theorem gX10_enter_X10_done : GoodIn wsX10_enter (wsV RX10 45 RX10 yX10_done wsX10_done) := goodIn_app (goodIn_of _ (by decide +kernel)) ggX10_enter_X10_done
theorem dX10_enter_0 : decode cX10_enter 0 = .ok (.aload_n 0, 1) := by decide +kernel
theorem dX10_enter_1 : decode cX10_enter 1 = .ok (.invokevirtual 38, 3) := by decide +kernel
theorem dX10_enter_4 : decode cX10_enter 4 = .ok (.aload_n 0, 1) := by decide +kernel
theorem dX10_enter_5 : decode cX10_enter 5 = .ok (.aload_n 0, 1) := by decide +kernel
theorem dX10_enter_6 : decode cX10_enter 6 = .ok (.iload_n 1, 1) := by decide +kernel
theorem dX10_enter_7 : decode cX10_enter 7 = .ok (.iload_n 2, 1) := by decide +kernel
theorem dX10_enter_8 : decode cX10_enter 8 = .ok (.iload_n 3, 1) := by decide +kernel
theorem dX10_enter_9 : decode cX10_enter 9 = .ok (.invokevirtual 76, 3) := by decide +kernel
theorem dX10_enter_12 : decode cX10_enter 12 = .ok (.invokevirtual 45, 3) := by decide +kernel
theorem dX10_enter_15 : decode cX10_enter 15 = .ok (.ireturn, 1) := by decide +kernel
set_option maxRecDepth 20000 in
theorem ggX10_doExit_X10_noGate : GoodIn wsX10_doExit wsX10_noGate := goodIn_r _ [6, 1, 7, 8, 5, 9, 34, 35, 36, 37, 38, 39, 40, 41, 42, 43] (by decide +kernel) (by decide +kernel)
set_option maxRecDepth 20000 in
theorem gX10_doExit_X10_noGate : GoodIn wsX10_doExit (wsV RX10 48 RX10 yX10_noGate wsX10_noGate) := goodIn_app (goodIn_of _ (by decide +kernel)) ggX10_doExit_X10_noGate
set_option maxRecDepth 20000 in
theorem ggX10_doExit_X10_noPerson : GoodIn wsX10_doExit wsX10_noPerson := goodIn_r _ [13, 1, 7, 8, 5, 9, 34, 35, 36, 37, 38, 39, 40, 41, 42, 43] (by decide +kernel) (by decide +kernel)
set_option maxRecDepth 20000 in
theorem gX10_doExit_X10_noPerson : GoodIn wsX10_doExit (wsV RX10 80 RX10 yX10_noPerson wsX10_noPerson) := goodIn_app (goodIn_of _ (by decide +kernel)) ggX10_doExit_X10_noPerson
set_option maxRecDepth 20000 in
theorem ggX10_doExit_X10_of : GoodIn wsX10_doExit wsX10_of := goodIn_r _ [17, 1, 34, 35, 36, 37, 38, 39, 40, 41, 42, 43] (by decide +kernel) (by decide +kernel)
set_option maxRecDepth 20000 in
theorem gX10_doExit_X10_of : GoodIn wsX10_doExit (wsV RX10 64 RX10 yX10_of wsX10_of) := goodIn_app (goodIn_of _ (by decide +kernel)) ggX10_doExit_X10_of
set_option maxRecDepth 20000 in
theorem ggX10_doExit_X10_put : GoodIn wsX10_doExit wsX10_put := goodIn_r _ [21, 1, 34, 35, 36, 37, 38, 39, 40, 41, 42, 43] (by decide +kernel) (by decide +kernel)
set_option maxRecDepth 20000 in
theorem gX10_doExit_X10_put : GoodIn wsX10_doExit (wsV RX10 70 RX10 yX10_put wsX10_put) := goodIn_app (goodIn_of _ (by decide +kernel)) ggX10_doExit_X10_put
set_option maxRecDepth 20000 in
theorem ggX10_doExit_X10_queue : GoodIn wsX10_doExit wsX10_queue := goodIn_r _ [25, 1, 18, 19, 20, 5, 21, 34, 35, 36, 37, 38, 39, 40, 41, 42, 43] (by decide +kernel) (by decide +kernel)
set_option maxRecDepth 20000 in
theorem gX10_doExit_X10_queue : GoodIn wsX10_doExit (wsV RX10 73 RX10 yX10_queue wsX10_queue) := goodIn_app (goodIn_of _ (by decide +kernel)) ggX10_doExit_X10_queue
set_option maxRecDepth 20000 in
theorem ggX10_doExit_X10_queueLength : GoodIn wsX10_doExit wsX10_queueLength := goodIn_r _ [29, 1, 30, 31, 32, 5, 33, 14, 15, 16, 17, 34, 35, 36, 37, 38, 39, 40, 41, 42, 43] (by decide +kernel) (by decide +kernel)
set_option maxRecDepth 20000 in
theorem gX10_doExit_X10_queueLength : GoodIn wsX10_doExit (wsV RX10 83 RX10 yX10_queueLength wsX10_queueLength) := goodIn_app (goodIn_of _ (by decide +kernel)) ggX10_doExit_X10_queueLength
theorem dX10_doExit_0 : decode cX10_doExit 0 = .ok (.aload_n 0, 1) := by decide +kernel
theorem dX10_doExit_1 : decode cX10_doExit 1 = .ok (.iload_n 1, 1) := by decide +kernel
theorem dX10_doExit_2 : decode cX10_doExit 2 = .ok (.invokevirtual 48, 3) := by decide +kernel
theorem dX10_doExit_5 : decode cX10_doExit 5 = .ok (.ifCond .ne 11, 3) := by decide +kernel
theorem dX10_doExit_8 : decode cX10_doExit 8 = .ok (.aload_n 0, 1) := by decide +kernel
theorem dX10_doExit_9 : decode cX10_doExit 9 = .ok (.iload_n 2, 1) := by decide +kernel
theorem dX10_doExit_10 : decode cX10_doExit 10 = .ok (.invokevirtual 80, 3) := by decide +kernel
theorem dX10_doExit_13 : decode cX10_doExit 13 = .ok (.ifCond .eq 5, 3) := by decide +kernel
theorem dX10_doExit_16 : decode cX10_doExit 16 = .ok (.iconst (-1), 1) := by decide +kernel
theorem dX10_doExit_17 : decode cX10_doExit 17 = .ok (.ireturn, 1) := by decide +kernel
theorem dX10_doExit_18 : decode cX10_doExit 18 = .ok (.aload_n 0, 1) := by decide +kernel
theorem dX10_doExit_19 : decode cX10_doExit 19 = .ok (.iload_n 2, 1) := by decide +kernel
theorem dX10_doExit_20 : decode cX10_doExit 20 = .ok (.iconst 0, 1) := by decide +kernel
theorem dX10_doExit_21 : decode cX10_doExit 21 = .ok (.invokevirtual 64, 3) := by decide +kernel
theorem dX10_doExit_24 : decode cX10_doExit 24 = .ok (.iconst 3, 1) := by decide +kernel
theorem dX10_doExit_25 : decode cX10_doExit 25 = .ok (.if_icmp .eq 6, 3) := by decide +kernel
theorem dX10_doExit_28 : decode cX10_doExit 28 = .ok (.bipush (-4), 2) := by decide +kernel
theorem dX10_doExit_30 : decode cX10_doExit 30 = .ok (.ireturn, 1) := by decide +kernel
theorem dX10_doExit_31 : decode cX10_doExit 31 = .ok (.aload_n 0, 1) := by decide +kernel
theorem dX10_doExit_32 : decode cX10_doExit 32 = .ok (.iload_n 2, 1) := by decide +kernel
theorem dX10_doExit_33 : decode cX10_doExit 33 = .ok (.iconst 5, 1) := by decide +kernel
theorem dX10_doExit_34 : decode cX10_doExit 34 = .ok (.aload_n 0, 1) := by decide +kernel
theorem dX10_doExit_35 : decode cX10_doExit 35 = .ok (.getfield 7, 3) := by decide +kernel
theorem dX10_doExit_38 : decode cX10_doExit 38 = .ok (.iconst 0, 1) := by decide +kernel
theorem dX10_doExit_39 : decode cX10_doExit 39 = .ok (.iaload, 1) := by decide +kernel
theorem dX10_doExit_40 : decode cX10_doExit 40 = .ok (.invokevirtual 70, 3) := by decide +kernel
theorem dX10_doExit_43 : decode cX10_doExit 43 = .ok (.aload_n 0, 1) := by decide +kernel
theorem dX10_doExit_44 : decode cX10_doExit 44 = .ok (.iload_n 2, 1) := by decide +kernel
theorem dX10_doExit_45 : decode cX10_doExit 45 = .ok (.iload_n 1, 1) := by decide +kernel
theorem dX10_doExit_46 : decode cX10_doExit 46 = .ok (.iconst 4, 1) := by decide +kernel
theorem dX10_doExit_47 : decode cX10_doExit 47 = .ok (.invokevirtual 73, 3) := by decide +kernel
theorem dX10_doExit_50 : decode cX10_doExit 50 = .ok (.aload_n 0, 1) := by decide +kernel
theorem dX10_doExit_51 : decode cX10_doExit 51 = .ok (.iload_n 1, 1) := by decide +kernel
theorem dX10_doExit_52 : decode cX10_doExit 52 = .ok (.iconst 1, 1) := by decide +kernel
theorem dX10_doExit_53 : decode cX10_doExit 53 = .ok (.invokevirtual 83, 3) := by decide +kernel
theorem dX10_doExit_56 : decode cX10_doExit 56 = .ok (.ireturn, 1) := by decide +kernel
set_option maxRecDepth 20000 in
theorem ggX10_exit_X10_begin : GoodIn wsX10_exit wsX10_begin := goodIn_r _ [5, 6, 7, 53, 54, 55, 56, 57, 58, 59, 60, 61, 62] (by decide +kernel) (by decide +kernel)
set_option maxRecDepth 20000 in
theorem gX10_exit_X10_begin : GoodIn wsX10_exit (wsV RX10 38 RX10 yX10_begin wsX10_begin) := goodIn_app (goodIn_of _ (by decide +kernel)) ggX10_exit_X10_begin
set_option maxRecDepth 20000 in
theorem ggX10_exit_X10_doExit : GoodIn wsX10_exit wsX10_doExit := goodIn_r _ [11, 7, 12, 13, 14, 4, 15, 16, 17, 18, 19, 20, 21, 22, 23, 24, 25, 26, 27, 28, 29, 30, 31, 32, 33, 34, 35, 36, 37, 38, 39, 40, 41, 42, 53, 54, 55, 56, 57, 58, 59, 60, 61, 62] (by decide +kernel) (by decide +kernel)
set_option maxRecDepth 20000 in
theorem gX10_exit_X10_doExit : GoodIn wsX10_exit (wsV RX10 86 RX10 yX10_doExit wsX10_doExit) := goodIn_app (goodIn_of _ (by decide +kernel)) ggX10_exit_X10_doExit
set_option maxRecDepth 20000 in
theorem ggX10_exit_X10_done : GoodIn wsX10_exit wsX10_done := goodIn_r _ [46, 47, 48, 49, 4, 50, 51, 52, 6, 53, 54, 55, 56, 57, 58, 59, 60, 61, 62] (by decide +kernel) (by decide +kernel)
set_option maxRecDepth 20000 in
theorem gX10_exit_X10_done : GoodIn wsX10_exit (wsV RX10 45 RX10 yX10_done wsX10_done) := goodIn_app (goodIn_of _ (by decide +kernel)) ggX10_exit_X10_done
theorem dX10_exit_0 : decode cX10_exit 0 = .ok (.aload_n 0, 1) := by decide +kernel
theorem dX10_exit_1 : decode cX10_exit 1 = .ok (.invokevirtual 38, 3) := by decide +kernel
theorem dX10_exit_4 : decode cX10_exit 4 = .ok (.aload_n 0, 1) := by decide +kernel
theorem dX10_exit_5 : decode cX10_exit 5 = .ok (.aload_n 0, 1) := by decide +kernel
theorem dX10_exit_6 : decode cX10_exit 6 = .ok (.iload_n 1, 1) := by decide +kernel
theorem dX10_exit_7 : decode cX10_exit 7 = .ok (.iload_n 2, 1) := by decide +kernel
theorem dX10_exit_8 : decode cX10_exit 8 = .ok (.invokevirtual 86, 3) := by decide +kernel
theorem dX10_exit_11 : decode cX10_exit 11 = .ok (.invokevirtual 45, 3) := by decide +kernel
theorem dX10_exit_14 : decode cX10_exit 14 = .ok (.ireturn, 1) := by decide +kernel
set_option maxRecDepth 20000 in
theorem ggX10_divert_X10_noGate : GoodIn wsX10_divert wsX10_noGate := goodIn_r _ [5, 6, 7, 8, 4, 9, 45, 46, 47, 48, 49, 50, 51, 52, 53, 54] (by decide +kernel) (by decide +kernel)
set_option maxRecDepth 20000 in
theorem gX10_divert_X10_noGate : GoodIn wsX10_divert (wsV RX10 48 RX10 yX10_noGate wsX10_noGate) := goodIn_app (goodIn_of _ (by decide +kernel)) ggX10_divert_X10_noGate
set_option maxRecDepth 20000 in
theorem ggX10_divert_X10_begin : GoodIn wsX10_divert wsX10_begin := goodIn_r _ [13, 14, 6, 45, 46, 47, 48, 49, 50, 51, 52, 53, 54] (by decide +kernel) (by decide +kernel)
set_option maxRecDepth 20000 in
theorem gX10_divert_X10_begin : GoodIn wsX10_divert (wsV RX10 38 RX10 yX10_begin wsX10_begin) := goodIn_app (goodIn_of _ (by decide +kernel)) ggX10_divert_X10_begin
set_option maxRecDepth 20000 in
theorem ggX10_divert_X10_queuedAt : GoodIn wsX10_divert wsX10_queuedAt := goodIn_r _ [18, 6, 19, 20, 21, 4, 22, 23, 24, 25, 26, 45, 46, 47, 48, 49, 50, 51, 52, 53, 54] (by decide +kernel) (by decide +kernel)
set_option maxRecDepth 20000 in
theorem gX10_divert_X10_queuedAt : GoodIn wsX10_divert (wsV RX10 89 RX10 yX10_queuedAt wsX10_queuedAt) := goodIn_app (goodIn_of _ (by decide +kernel)) ggX10_divert_X10_queuedAt
set_option maxRecDepth 20000 in
theorem ggX10_divert_X10_of : GoodIn wsX10_divert wsX10_of := goodIn_r _ [26, 6, 45, 46, 47, 48, 49, 50, 51, 52, 53, 54] (by decide +kernel) (by decide +kernel)
set_option maxRecDepth 20000 in
theorem gX10_divert_X10_of : GoodIn wsX10_divert (wsV RX10 64 RX10 yX10_of wsX10_of) := goodIn_app (goodIn_of _ (by decide +kernel)) ggX10_divert_X10_of
set_option maxRecDepth 20000 in
theorem ggX10_divert_X10_queue : GoodIn wsX10_divert wsX10_queue := goodIn_r _ [30, 6, 31, 32, 33, 4, 34, 45, 46, 47, 48, 49, 50, 51, 52, 53, 54] (by decide +kernel) (by decide +kernel)
set_option maxRecDepth 20000 in
theorem gX10_divert_X10_queue : GoodIn wsX10_divert (wsV RX10 73 RX10 yX10_queue wsX10_queue) := goodIn_app (goodIn_of _ (by decide +kernel)) ggX10_divert_X10_queue
set_option maxRecDepth 20000 in
theorem ggX10_divert_X10_done : GoodIn wsX10_divert wsX10_done := goodIn_r _ [38, 39, 40, 41, 4, 42, 43, 44, 14, 45, 46, 47, 48, 49, 50, 51, 52, 53, 54] (by decide +kernel) (by decide +kernel)
set_option maxRecDepth 20000 in
theorem gX10_divert_X10_done : GoodIn wsX10_divert (wsV RX10 45 RX10 yX10_done wsX10_done) := goodIn_app (goodIn_of _ (by decide +kernel)) ggX10_divert_X10_done
theorem dX10_divert_0 : decode cX10_divert 0 = .ok (.aload_n 0, 1) := by decide +kernel
theorem dX10_divert_1 : decode cX10_divert 1 = .ok (.iload_n 1, 1) := by decide +kernel
theorem dX10_divert_2 : decode cX10_divert 2 = .ok (.invokevirtual 48, 3) := by decide +kernel
theorem dX10_divert_5 : decode cX10_divert 5 = .ok (.ifCond .ne 11, 3) := by decide +kernel
theorem dX10_divert_8 : decode cX10_divert 8 = .ok (.aload_n 0, 1) := by decide +kernel
theorem dX10_divert_9 : decode cX10_divert 9 = .ok (.iload_n 2, 1) := by decide +kernel
theorem dX10_divert_10 : decode cX10_divert 10 = .ok (.invokevirtual 48, 3) := by decide +kernel
theorem dX10_divert_13 : decode cX10_divert 13 = .ok (.ifCond .eq 5, 3) := by decide +kernel
theorem dX10_divert_16 : decode cX10_divert 16 = .ok (.iconst (-1), 1) := by decide +kernel
theorem dX10_divert_17 : decode cX10_divert 17 = .ok (.ireturn, 1) := by decide +kernel
theorem dX10_divert_18 : decode cX10_divert 18 = .ok (.iload_n 1, 1) := by decide +kernel
theorem dX10_divert_19 : decode cX10_divert 19 = .ok (.iload_n 2, 1) := by decide +kernel
theorem dX10_divert_20 : decode cX10_divert 20 = .ok (.if_icmp .ne 6, 3) := by decide +kernel
theorem dX10_divert_23 : decode cX10_divert 23 = .ok (.bipush (-2), 2) := by decide +kernel
theorem dX10_divert_25 : decode cX10_divert 25 = .ok (.ireturn, 1) := by decide +kernel
theorem dX10_divert_26 : decode cX10_divert 26 = .ok (.aload_n 0, 1) := by decide +kernel
theorem dX10_divert_27 : decode cX10_divert 27 = .ok (.invokevirtual 38, 3) := by decide +kernel
theorem dX10_divert_30 : decode cX10_divert 30 = .ok (.iconst 0, 1) := by decide +kernel
theorem dX10_divert_31 : decode cX10_divert 31 = .ok (.istore_n 3, 1) := by decide +kernel
theorem dX10_divert_32 : decode cX10_divert 32 = .ok (.iconst 0, 1) := by decide +kernel
theorem dX10_divert_33 : decode cX10_divert 33 = .ok (.istore 4, 2) := by decide +kernel
theorem dX10_divert_35 : decode cX10_divert 35 = .ok (.iload 4, 2) := by decide +kernel
theorem dX10_divert_37 : decode cX10_divert 37 = .ok (.iconst 2, 1) := by decide +kernel
theorem dX10_divert_38 : decode cX10_divert 38 = .ok (.if_icmp .ge 54, 3) := by decide +kernel
theorem dX10_divert_41 : decode cX10_divert 41 = .ok (.aload_n 0, 1) := by decide +kernel
theorem dX10_divert_42 : decode cX10_divert 42 = .ok (.iload_n 1, 1) := by decide +kernel
theorem dX10_divert_43 : decode cX10_divert 43 = .ok (.iload 4, 2) := by decide +kernel
theorem dX10_divert_45 : decode cX10_divert 45 = .ok (.iconst 0, 1) := by decide +kernel
theorem dX10_divert_46 : decode cX10_divert 46 = .ok (.invokevirtual 89, 3) := by decide +kernel
theorem dX10_divert_49 : decode cX10_divert 49 = .ok (.istore 5, 2) := by decide +kernel
theorem dX10_divert_51 : decode cX10_divert 51 = .ok (.iload 5, 2) := by decide +kernel
theorem dX10_divert_53 : decode cX10_divert 53 = .ok (.ifCond .lt 33, 3) := by decide +kernel
theorem dX10_divert_56 : decode cX10_divert 56 = .ok (.aload_n 0, 1) := by decide +kernel
theorem dX10_divert_57 : decode cX10_divert 57 = .ok (.iload 5, 2) := by decide +kernel
theorem dX10_divert_59 : decode cX10_divert 59 = .ok (.iload_n 2, 1) := by decide +kernel
theorem dX10_divert_60 : decode cX10_divert 60 = .ok (.aload_n 0, 1) := by decide +kernel
theorem dX10_divert_61 : decode cX10_divert 61 = .ok (.iload 5, 2) := by decide +kernel
theorem dX10_divert_63 : decode cX10_divert 63 = .ok (.iconst 0, 1) := by decide +kernel
theorem dX10_divert_64 : decode cX10_divert 64 = .ok (.invokevirtual 64, 3) := by decide +kernel
theorem dX10_divert_67 : decode cX10_divert 67 = .ok (.invokevirtual 73, 3) := by decide +kernel
theorem dX10_divert_70 : decode cX10_divert 70 = .ok (.iinc 3 1, 3) := by decide +kernel
theorem dX10_divert_73 : decode cX10_divert 73 = .ok (.aload_n 0, 1) := by decide +kernel
theorem dX10_divert_74 : decode cX10_divert 74 = .ok (.iload_n 1, 1) := by decide +kernel
theorem dX10_divert_75 : decode cX10_divert 75 = .ok (.iload 4, 2) := by decide +kernel
theorem dX10_divert_77 : decode cX10_divert 77 = .ok (.iconst 0, 1) := by decide +kernel
theorem dX10_divert_78 : decode cX10_divert 78 = .ok (.invokevirtual 89, 3) := by decide +kernel
theorem dX10_divert_81 : decode cX10_divert 81 = .ok (.istore 5, 2) := by decide +kernel
theorem dX10_divert_83 : decode cX10_divert 83 = .ok (.goto (-32), 3) := by decide +kernel
theorem dX10_divert_86 : decode cX10_divert 86 = .ok (.iinc 4 1, 3) := by decide +kernel
theorem dX10_divert_89 : decode cX10_divert 89 = .ok (.goto (-54), 3) := by decide +kernel
theorem dX10_divert_92 : decode cX10_divert 92 = .ok (.iload_n 3, 1) := by decide +kernel
theorem dX10_divert_93 : decode cX10_divert 93 = .ok (.ifCond .ne 8, 3) := by decide +kernel
theorem dX10_divert_96 : decode cX10_divert 96 = .ok (.bipush (-5), 2) := by decide +kernel
theorem dX10_divert_98 : decode cX10_divert 98 = .ok (.goto 8, 3) := by decide +kernel
theorem dX10_divert_101 : decode cX10_divert 101 = .ok (.aload_n 0, 1) := by decide +kernel
theorem dX10_divert_102 : decode cX10_divert 102 = .ok (.iload_n 3, 1) := by decide +kernel
theorem dX10_divert_103 : decode cX10_divert 103 = .ok (.invokevirtual 45, 3) := by decide +kernel
theorem dX10_divert_106 : decode cX10_divert 106 = .ok (.ireturn, 1) := by decide +kernel
theorem dX10_tell_0 : decode cX10_tell 0 = .ok (.bipush 79, 2) := by decide +kernel
theorem dX10_tell_2 : decode cX10_tell 2 = .ok (.istore 4, 2) := by decide +kernel
theorem dX10_tell_4 : decode cX10_tell 4 = .ok (.iload 4, 2) := by decide +kernel
theorem dX10_tell_6 : decode cX10_tell 6 = .ok (.iconst 4, 1) := by decide +kernel
theorem dX10_tell_7 : decode cX10_tell 7 = .ok (.if_icmp .lt 33, 3) := by decide +kernel
theorem dX10_tell_10 : decode cX10_tell 10 = .ok (.aload_n 0, 1) := by decide +kernel
theorem dX10_tell_11 : decode cX10_tell 11 = .ok (.getfield 7, 3) := by decide +kernel
theorem dX10_tell_14 : decode cX10_tell 14 = .ok (.sipush 436, 3) := by decide +kernel
theorem dX10_tell_17 : decode cX10_tell 17 = .ok (.iload 4, 2) := by decide +kernel
theorem dX10_tell_19 : decode cX10_tell 19 = .ok (.iadd, 1) := by decide +kernel
theorem dX10_tell_20 : decode cX10_tell 20 = .ok (.aload_n 0, 1) := by decide +kernel
theorem dX10_tell_21 : decode cX10_tell 21 = .ok (.getfield 7, 3) := by decide +kernel
theorem dX10_tell_24 : decode cX10_tell 24 = .ok (.sipush 436, 3) := by decide +kernel
theorem dX10_tell_27 : decode cX10_tell 27 = .ok (.iload 4, 2) := by decide +kernel
theorem dX10_tell_29 : decode cX10_tell 29 = .ok (.iadd, 1) := by decide +kernel
theorem dX10_tell_30 : decode cX10_tell 30 = .ok (.iconst 4, 1) := by decide +kernel
theorem dX10_tell_31 : decode cX10_tell 31 = .ok (.isub, 1) := by decide +kernel
theorem dX10_tell_32 : decode cX10_tell 32 = .ok (.iaload, 1) := by decide +kernel
theorem dX10_tell_33 : decode cX10_tell 33 = .ok (.iastore, 1) := by decide +kernel
theorem dX10_tell_34 : decode cX10_tell 34 = .ok (.iinc 4 (-1), 3) := by decide +kernel
theorem dX10_tell_37 : decode cX10_tell 37 = .ok (.goto (-33), 3) := by decide +kernel
theorem dX10_tell_40 : decode cX10_tell 40 = .ok (.aload_n 0, 1) := by decide +kernel
theorem dX10_tell_41 : decode cX10_tell 41 = .ok (.getfield 7, 3) := by decide +kernel
theorem dX10_tell_44 : decode cX10_tell 44 = .ok (.sipush 436, 3) := by decide +kernel
theorem dX10_tell_47 : decode cX10_tell 47 = .ok (.aload_n 0, 1) := by decide +kernel
theorem dX10_tell_48 : decode cX10_tell 48 = .ok (.getfield 7, 3) := by decide +kernel
theorem dX10_tell_51 : decode cX10_tell 51 = .ok (.iconst 0, 1) := by decide +kernel
theorem dX10_tell_52 : decode cX10_tell 52 = .ok (.iaload, 1) := by decide +kernel
theorem dX10_tell_53 : decode cX10_tell 53 = .ok (.iastore, 1) := by decide +kernel
theorem dX10_tell_54 : decode cX10_tell 54 = .ok (.aload_n 0, 1) := by decide +kernel
theorem dX10_tell_55 : decode cX10_tell 55 = .ok (.getfield 7, 3) := by decide +kernel
theorem dX10_tell_58 : decode cX10_tell 58 = .ok (.sipush 437, 3) := by decide +kernel
theorem dX10_tell_61 : decode cX10_tell 61 = .ok (.iload_n 1, 1) := by decide +kernel
theorem dX10_tell_62 : decode cX10_tell 62 = .ok (.iastore, 1) := by decide +kernel
theorem dX10_tell_63 : decode cX10_tell 63 = .ok (.aload_n 0, 1) := by decide +kernel
theorem dX10_tell_64 : decode cX10_tell 64 = .ok (.getfield 7, 3) := by decide +kernel
theorem dX10_tell_67 : decode cX10_tell 67 = .ok (.sipush 438, 3) := by decide +kernel
theorem dX10_tell_70 : decode cX10_tell 70 = .ok (.iload_n 2, 1) := by decide +kernel
theorem dX10_tell_71 : decode cX10_tell 71 = .ok (.iastore, 1) := by decide +kernel
theorem dX10_tell_72 : decode cX10_tell 72 = .ok (.aload_n 0, 1) := by decide +kernel
theorem dX10_tell_73 : decode cX10_tell 73 = .ok (.getfield 7, 3) := by decide +kernel
theorem dX10_tell_76 : decode cX10_tell 76 = .ok (.sipush 439, 3) := by decide +kernel
theorem dX10_tell_79 : decode cX10_tell 79 = .ok (.iload_n 3, 1) := by decide +kernel
theorem dX10_tell_80 : decode cX10_tell 80 = .ok (.iastore, 1) := by decide +kernel
theorem dX10_tell_81 : decode cX10_tell 81 = .ok (.aload_n 0, 1) := by decide +kernel
theorem dX10_tell_82 : decode cX10_tell 82 = .ok (.getfield 7, 3) := by decide +kernel
theorem dX10_tell_85 : decode cX10_tell 85 = .ok (.iconst 5, 1) := by decide +kernel
theorem dX10_tell_86 : decode cX10_tell 86 = .ok (.dup2, 1) := by decide +kernel
theorem dX10_tell_87 : decode cX10_tell 87 = .ok (.iaload, 1) := by decide +kernel
theorem dX10_tell_88 : decode cX10_tell 88 = .ok (.aload_n 0, 1) := by decide +kernel
theorem dX10_tell_89 : decode cX10_tell 89 = .ok (.getfield 7, 3) := by decide +kernel
theorem dX10_tell_92 : decode cX10_tell 92 = .ok (.iconst 5, 1) := by decide +kernel
theorem dX10_tell_93 : decode cX10_tell 93 = .ok (.iaload, 1) := by decide +kernel
theorem dX10_tell_94 : decode cX10_tell 94 = .ok (.bipush 20, 2) := by decide +kernel
theorem dX10_tell_96 : decode cX10_tell 96 = .ok (.if_icmp .ge 7, 3) := by decide +kernel
theorem dX10_tell_99 : decode cX10_tell 99 = .ok (.iconst 1, 1) := by decide +kernel
theorem dX10_tell_100 : decode cX10_tell 100 = .ok (.goto 4, 3) := by decide +kernel
theorem dX10_tell_103 : decode cX10_tell 103 = .ok (.iconst 0, 1) := by decide +kernel
theorem dX10_tell_104 : decode cX10_tell 104 = .ok (.iadd, 1) := by decide +kernel
theorem dX10_tell_105 : decode cX10_tell 105 = .ok (.iastore, 1) := by decide +kernel
theorem dX10_tell_106 : decode cX10_tell 106 = .ok (.return_, 1) := by decide +kernel
set_option maxRecDepth 20000 in
theorem ggX10_letThrough_X10_gateOf : GoodIn wsX10_letThrough wsX10_gateOf := goodIn_r _ [5, 6, 19, 20, 21, 22, 23, 24, 25, 26, 27, 28] (by decide +kernel) (by decide +kernel)
set_option maxRecDepth 20000 in
theorem gX10_letThrough_X10_gateOf : GoodIn wsX10_letThrough (wsV RX10 52 RX10 yX10_gateOf wsX10_gateOf) := goodIn_app (goodIn_of _ (by decide +kernel)) ggX10_letThrough_X10_gateOf
set_option maxRecDepth 20000 in
theorem ggX10_letThrough_X10_put : GoodIn wsX10_letThrough wsX10_put := goodIn_r _ [10, 6, 19, 20, 21, 22, 23, 24, 25, 26, 27, 28] (by decide +kernel) (by decide +kernel)
set_option maxRecDepth 20000 in
theorem gX10_letThrough_X10_put : GoodIn wsX10_letThrough (wsV RX10 70 RX10 yX10_put wsX10_put) := goodIn_app (goodIn_of _ (by decide +kernel)) ggX10_letThrough_X10_put
set_option maxRecDepth 20000 in
theorem ggX10_letThrough_X10_putGate : GoodIn wsX10_letThrough wsX10_putGate := goodIn_r _ [14, 6, 19, 20, 21, 22, 23, 24, 25, 26, 27, 28] (by decide +kernel) (by decide +kernel)
set_option maxRecDepth 20000 in
theorem gX10_letThrough_X10_putGate : GoodIn wsX10_letThrough (wsV RX10 41 RX10 yX10_putGate wsX10_putGate) := goodIn_app (goodIn_of _ (by decide +kernel)) ggX10_letThrough_X10_putGate
set_option maxRecDepth 20000 in
theorem ggX10_letThrough_X10_tell : GoodIn wsX10_letThrough wsX10_tell := goodIn_r _ [18, 6, 19, 20, 21, 22, 23, 24, 25, 26, 27, 28] (by decide +kernel) (by decide +kernel)
set_option maxRecDepth 20000 in
theorem gX10_letThrough_X10_tell : GoodIn wsX10_letThrough (wsV RX10 93 RX10 yX10_tell wsX10_tell) := goodIn_app (goodIn_of _ (by decide +kernel)) ggX10_letThrough_X10_tell
theorem dX10_letThrough_0 : decode cX10_letThrough 0 = .ok (.aload_n 0, 1) := by decide +kernel
theorem dX10_letThrough_1 : decode cX10_letThrough 1 = .ok (.iload_n 1, 1) := by decide +kernel
theorem dX10_letThrough_2 : decode cX10_letThrough 2 = .ok (.bipush 6, 2) := by decide +kernel
theorem dX10_letThrough_4 : decode cX10_letThrough 4 = .ok (.invokevirtual 52, 3) := by decide +kernel
theorem dX10_letThrough_7 : decode cX10_letThrough 7 = .ok (.istore_n 2, 1) := by decide +kernel
theorem dX10_letThrough_8 : decode cX10_letThrough 8 = .ok (.aload_n 0, 1) := by decide +kernel
theorem dX10_letThrough_9 : decode cX10_letThrough 9 = .ok (.iload_n 1, 1) := by decide +kernel
theorem dX10_letThrough_10 : decode cX10_letThrough 10 = .ok (.bipush 7, 2) := by decide +kernel
theorem dX10_letThrough_12 : decode cX10_letThrough 12 = .ok (.invokevirtual 52, 3) := by decide +kernel
theorem dX10_letThrough_15 : decode cX10_letThrough 15 = .ok (.iconst 1, 1) := by decide +kernel
theorem dX10_letThrough_16 : decode cX10_letThrough 16 = .ok (.if_icmp .ne 7, 3) := by decide +kernel
theorem dX10_letThrough_19 : decode cX10_letThrough 19 = .ok (.iconst 1, 1) := by decide +kernel
theorem dX10_letThrough_20 : decode cX10_letThrough 20 = .ok (.goto 4, 3) := by decide +kernel
theorem dX10_letThrough_23 : decode cX10_letThrough 23 = .ok (.iconst 0, 1) := by decide +kernel
theorem dX10_letThrough_24 : decode cX10_letThrough 24 = .ok (.istore_n 3, 1) := by decide +kernel
theorem dX10_letThrough_25 : decode cX10_letThrough 25 = .ok (.aload_n 0, 1) := by decide +kernel
theorem dX10_letThrough_26 : decode cX10_letThrough 26 = .ok (.iload_n 2, 1) := by decide +kernel
theorem dX10_letThrough_27 : decode cX10_letThrough 27 = .ok (.iconst 0, 1) := by decide +kernel
theorem dX10_letThrough_28 : decode cX10_letThrough 28 = .ok (.iload_n 3, 1) := by decide +kernel
theorem dX10_letThrough_29 : decode cX10_letThrough 29 = .ok (.ifCond .eq 7, 3) := by decide +kernel
theorem dX10_letThrough_32 : decode cX10_letThrough 32 = .ok (.iconst 3, 1) := by decide +kernel
theorem dX10_letThrough_33 : decode cX10_letThrough 33 = .ok (.goto 4, 3) := by decide +kernel
theorem dX10_letThrough_36 : decode cX10_letThrough 36 = .ok (.iconst 5, 1) := by decide +kernel
theorem dX10_letThrough_37 : decode cX10_letThrough 37 = .ok (.invokevirtual 70, 3) := by decide +kernel
theorem dX10_letThrough_40 : decode cX10_letThrough 40 = .ok (.aload_n 0, 1) := by decide +kernel
theorem dX10_letThrough_41 : decode cX10_letThrough 41 = .ok (.iload_n 2, 1) := by decide +kernel
theorem dX10_letThrough_42 : decode cX10_letThrough 42 = .ok (.iconst 3, 1) := by decide +kernel
theorem dX10_letThrough_43 : decode cX10_letThrough 43 = .ok (.bipush (-5), 2) := by decide +kernel
theorem dX10_letThrough_45 : decode cX10_letThrough 45 = .ok (.invokevirtual 70, 3) := by decide +kernel
theorem dX10_letThrough_48 : decode cX10_letThrough 48 = .ok (.iload_n 3, 1) := by decide +kernel
theorem dX10_letThrough_49 : decode cX10_letThrough 49 = .ok (.ifCond .eq 8, 3) := by decide +kernel
theorem dX10_letThrough_52 : decode cX10_letThrough 52 = .ok (.bipush 10, 2) := by decide +kernel
theorem dX10_letThrough_54 : decode cX10_letThrough 54 = .ok (.goto 5, 3) := by decide +kernel
theorem dX10_letThrough_57 : decode cX10_letThrough 57 = .ok (.bipush 11, 2) := by decide +kernel
theorem dX10_letThrough_59 : decode cX10_letThrough 59 = .ok (.istore 4, 2) := by decide +kernel
theorem dX10_letThrough_61 : decode cX10_letThrough 61 = .ok (.aload_n 0, 1) := by decide +kernel
theorem dX10_letThrough_62 : decode cX10_letThrough 62 = .ok (.iload_n 1, 1) := by decide +kernel
theorem dX10_letThrough_63 : decode cX10_letThrough 63 = .ok (.iload 4, 2) := by decide +kernel
theorem dX10_letThrough_65 : decode cX10_letThrough 65 = .ok (.aload_n 0, 1) := by decide +kernel
theorem dX10_letThrough_66 : decode cX10_letThrough 66 = .ok (.iload_n 1, 1) := by decide +kernel
theorem dX10_letThrough_67 : decode cX10_letThrough 67 = .ok (.iload 4, 2) := by decide +kernel
theorem dX10_letThrough_69 : decode cX10_letThrough 69 = .ok (.invokevirtual 52, 3) := by decide +kernel
theorem dX10_letThrough_72 : decode cX10_letThrough 72 = .ok (.iconst 1, 1) := by decide +kernel
theorem dX10_letThrough_73 : decode cX10_letThrough 73 = .ok (.iadd, 1) := by decide +kernel
theorem dX10_letThrough_74 : decode cX10_letThrough 74 = .ok (.invokevirtual 41, 3) := by decide +kernel
theorem dX10_letThrough_77 : decode cX10_letThrough 77 = .ok (.aload_n 0, 1) := by decide +kernel
theorem dX10_letThrough_78 : decode cX10_letThrough 78 = .ok (.iload_n 1, 1) := by decide +kernel
theorem dX10_letThrough_79 : decode cX10_letThrough 79 = .ok (.bipush 6, 2) := by decide +kernel
theorem dX10_letThrough_81 : decode cX10_letThrough 81 = .ok (.bipush (-5), 2) := by decide +kernel
theorem dX10_letThrough_83 : decode cX10_letThrough 83 = .ok (.invokevirtual 41, 3) := by decide +kernel
theorem dX10_letThrough_86 : decode cX10_letThrough 86 = .ok (.aload_n 0, 1) := by decide +kernel
theorem dX10_letThrough_87 : decode cX10_letThrough 87 = .ok (.iload_n 1, 1) := by decide +kernel
theorem dX10_letThrough_88 : decode cX10_letThrough 88 = .ok (.iload_n 2, 1) := by decide +kernel
theorem dX10_letThrough_89 : decode cX10_letThrough 89 = .ok (.iload_n 3, 1) := by decide +kernel
theorem dX10_letThrough_90 : decode cX10_letThrough 90 = .ok (.ifCond .eq 7, 3) := by decide +kernel
theorem dX10_letThrough_93 : decode cX10_letThrough 93 = .ok (.iconst 2, 1) := by decide +kernel
theorem dX10_letThrough_94 : decode cX10_letThrough 94 = .ok (.goto 4, 3) := by decide +kernel
theorem dX10_letThrough_97 : decode cX10_letThrough 97 = .ok (.iconst 3, 1) := by decide +kernel
theorem dX10_letThrough_98 : decode cX10_letThrough 98 = .ok (.invokevirtual 93, 3) := by decide +kernel
theorem dX10_letThrough_101 : decode cX10_letThrough 101 = .ok (.return_, 1) := by decide +kernel
set_option maxRecDepth 20000 in
theorem ggX10_goOut_X10_putGate : GoodIn wsX10_goOut wsX10_putGate := goodIn_r _ [5, 6, 23, 24, 25, 26, 27, 28, 29, 30, 31, 32] (by decide +kernel) (by decide +kernel)
set_option maxRecDepth 20000 in
theorem gX10_goOut_X10_putGate : GoodIn wsX10_goOut (wsV RX10 41 RX10 yX10_putGate wsX10_putGate) := goodIn_app (goodIn_of _ (by decide +kernel)) ggX10_goOut_X10_putGate
set_option maxRecDepth 20000 in
theorem ggX10_goOut_X10_tell : GoodIn wsX10_goOut wsX10_tell := goodIn_r _ [10, 6, 23, 24, 25, 26, 27, 28, 29, 30, 31, 32] (by decide +kernel) (by decide +kernel)
set_option maxRecDepth 20000 in
theorem gX10_goOut_X10_tell : GoodIn wsX10_goOut (wsV RX10 93 RX10 yX10_tell wsX10_tell) := goodIn_app (goodIn_of _ (by decide +kernel)) ggX10_goOut_X10_tell
set_option maxRecDepth 20000 in
theorem ggX10_goOut_X10_gateOf : GoodIn wsX10_goOut wsX10_gateOf := goodIn_r _ [14, 6, 23, 24, 25, 26, 27, 28, 29, 30, 31, 32] (by decide +kernel) (by decide +kernel)
set_option maxRecDepth 20000 in
theorem gX10_goOut_X10_gateOf : GoodIn wsX10_goOut (wsV RX10 52 RX10 yX10_gateOf wsX10_gateOf) := goodIn_app (goodIn_of _ (by decide +kernel)) ggX10_goOut_X10_gateOf
set_option maxRecDepth 20000 in
theorem ggX10_goOut_X10_letThrough : GoodIn wsX10_goOut wsX10_letThrough := goodIn_r _ [18, 11, 12, 13, 4, 14, 6, 19, 20, 21, 22, 1, 2, 3, 5, 7, 8, 9, 10, 23, 24, 25, 26, 27, 28, 29, 30, 31, 32] (by decide +kernel) (by decide +kernel)
set_option maxRecDepth 20000 in
theorem gX10_goOut_X10_letThrough : GoodIn wsX10_goOut (wsV RX10 96 RX10 yX10_letThrough wsX10_letThrough) := goodIn_app (goodIn_of _ (by decide +kernel)) ggX10_goOut_X10_letThrough
theorem dX10_goOut_0 : decode cX10_goOut 0 = .ok (.aload_n 0, 1) := by decide +kernel
theorem dX10_goOut_1 : decode cX10_goOut 1 = .ok (.iload_n 1, 1) := by decide +kernel
theorem dX10_goOut_2 : decode cX10_goOut 2 = .ok (.iconst 4, 1) := by decide +kernel
theorem dX10_goOut_3 : decode cX10_goOut 3 = .ok (.iconst 5, 1) := by decide +kernel
theorem dX10_goOut_4 : decode cX10_goOut 4 = .ok (.invokevirtual 41, 3) := by decide +kernel
theorem dX10_goOut_7 : decode cX10_goOut 7 = .ok (.aload_n 0, 1) := by decide +kernel
theorem dX10_goOut_8 : decode cX10_goOut 8 = .ok (.iload_n 1, 1) := by decide +kernel
theorem dX10_goOut_9 : decode cX10_goOut 9 = .ok (.iconst 5, 1) := by decide +kernel
theorem dX10_goOut_10 : decode cX10_goOut 10 = .ok (.iconst 0, 1) := by decide +kernel
theorem dX10_goOut_11 : decode cX10_goOut 11 = .ok (.invokevirtual 41, 3) := by decide +kernel
theorem dX10_goOut_14 : decode cX10_goOut 14 = .ok (.aload_n 0, 1) := by decide +kernel
theorem dX10_goOut_15 : decode cX10_goOut 15 = .ok (.iload_n 1, 1) := by decide +kernel
theorem dX10_goOut_16 : decode cX10_goOut 16 = .ok (.bipush 9, 2) := by decide +kernel
theorem dX10_goOut_18 : decode cX10_goOut 18 = .ok (.iconst 0, 1) := by decide +kernel
theorem dX10_goOut_19 : decode cX10_goOut 19 = .ok (.invokevirtual 41, 3) := by decide +kernel
theorem dX10_goOut_22 : decode cX10_goOut 22 = .ok (.aload_n 0, 1) := by decide +kernel
theorem dX10_goOut_23 : decode cX10_goOut 23 = .ok (.iload_n 1, 1) := by decide +kernel
theorem dX10_goOut_24 : decode cX10_goOut 24 = .ok (.bipush (-5), 2) := by decide +kernel
theorem dX10_goOut_26 : decode cX10_goOut 26 = .ok (.iconst 5, 1) := by decide +kernel
theorem dX10_goOut_27 : decode cX10_goOut 27 = .ok (.invokevirtual 93, 3) := by decide +kernel
theorem dX10_goOut_30 : decode cX10_goOut 30 = .ok (.aload_n 0, 1) := by decide +kernel
theorem dX10_goOut_31 : decode cX10_goOut 31 = .ok (.iload_n 1, 1) := by decide +kernel
theorem dX10_goOut_32 : decode cX10_goOut 32 = .ok (.bipush 6, 2) := by decide +kernel
theorem dX10_goOut_34 : decode cX10_goOut 34 = .ok (.invokevirtual 52, 3) := by decide +kernel
theorem dX10_goOut_37 : decode cX10_goOut 37 = .ok (.ifCond .lt 8, 3) := by decide +kernel
theorem dX10_goOut_40 : decode cX10_goOut 40 = .ok (.aload_n 0, 1) := by decide +kernel
theorem dX10_goOut_41 : decode cX10_goOut 41 = .ok (.iload_n 1, 1) := by decide +kernel
theorem dX10_goOut_42 : decode cX10_goOut 42 = .ok (.invokevirtual 96, 3) := by decide +kernel
theorem dX10_goOut_45 : decode cX10_goOut 45 = .ok (.return_, 1) := by decide +kernel
set_option maxRecDepth 20000 in
theorem ggX10_isOfPool_X10_of : GoodIn wsX10_isOfPool wsX10_of := goodIn_r _ [6, 1, 10, 11, 12, 13, 14, 15, 16, 17, 18, 19] (by decide +kernel) (by decide +kernel)
set_option maxRecDepth 20000 in
theorem gX10_isOfPool_X10_of : GoodIn wsX10_isOfPool (wsV RX10 64 RX10 yX10_of wsX10_of) := goodIn_app (goodIn_of _ (by decide +kernel)) ggX10_isOfPool_X10_of
set_option maxRecDepth 20000 in
theorem ggX10_isOfPool_X10_in : GoodIn wsX10_isOfPool wsX10_in := goodIn_r _ [9] (by decide +kernel) (by decide +kernel)
set_option maxRecDepth 20000 in
theorem gX10_isOfPool_X10_in : GoodIn wsX10_isOfPool (va_wsS RX10 34 yX10_in wsX10_in) := goodIn_app (goodIn_of _ (by decide +kernel)) ggX10_isOfPool_X10_in
theorem dX10_isOfPool_0 : decode cX10_isOfPool 0 = .ok (.aload_n 0, 1) := by decide +kernel
theorem dX10_isOfPool_1 : decode cX10_isOfPool 1 = .ok (.iload_n 1, 1) := by decide +kernel
theorem dX10_isOfPool_2 : decode cX10_isOfPool 2 = .ok (.iconst 1, 1) := by decide +kernel
theorem dX10_isOfPool_3 : decode cX10_isOfPool 3 = .ok (.invokevirtual 64, 3) := by decide +kernel
theorem dX10_isOfPool_6 : decode cX10_isOfPool 6 = .ok (.istore_n 3, 1) := by decide +kernel
theorem dX10_isOfPool_7 : decode cX10_isOfPool 7 = .ok (.iload_n 3, 1) := by decide +kernel
theorem dX10_isOfPool_8 : decode cX10_isOfPool 8 = .ok (.ifCond .lt 37, 3) := by decide +kernel
theorem dX10_isOfPool_11 : decode cX10_isOfPool 11 = .ok (.aload_n 0, 1) := by decide +kernel
theorem dX10_isOfPool_12 : decode cX10_isOfPool 12 = .ok (.getfield 7, 3) := by decide +kernel
theorem dX10_isOfPool_15 : decode cX10_isOfPool 15 = .ok (.sipush 400, 3) := by decide +kernel
theorem dX10_isOfPool_18 : decode cX10_isOfPool 18 = .ok (.iconst 2, 1) := by decide +kernel
theorem dX10_isOfPool_19 : decode cX10_isOfPool 19 = .ok (.iload_n 3, 1) := by decide +kernel
theorem dX10_isOfPool_20 : decode cX10_isOfPool 20 = .ok (.imul, 1) := by decide +kernel
theorem dX10_isOfPool_21 : decode cX10_isOfPool 21 = .ok (.iadd, 1) := by decide +kernel
theorem dX10_isOfPool_22 : decode cX10_isOfPool 22 = .ok (.iaload, 1) := by decide +kernel
theorem dX10_isOfPool_23 : decode cX10_isOfPool 23 = .ok (.iload_n 2, 1) := by decide +kernel
theorem dX10_isOfPool_24 : decode cX10_isOfPool 24 = .ok (.if_icmp .ne 21, 3) := by decide +kernel
theorem dX10_isOfPool_27 : decode cX10_isOfPool 27 = .ok (.aload_n 0, 1) := by decide +kernel
theorem dX10_isOfPool_28 : decode cX10_isOfPool 28 = .ok (.iload_n 1, 1) := by decide +kernel
theorem dX10_isOfPool_29 : decode cX10_isOfPool 29 = .ok (.iconst 0, 1) := by decide +kernel
theorem dX10_isOfPool_30 : decode cX10_isOfPool 30 = .ok (.invokevirtual 64, 3) := by decide +kernel
theorem dX10_isOfPool_33 : decode cX10_isOfPool 33 = .ok (.iconst 2, 1) := by decide +kernel
theorem dX10_isOfPool_34 : decode cX10_isOfPool 34 = .ok (.iconst 4, 1) := by decide +kernel
theorem dX10_isOfPool_35 : decode cX10_isOfPool 35 = .ok (.invokestatic 34, 3) := by decide +kernel
theorem dX10_isOfPool_38 : decode cX10_isOfPool 38 = .ok (.ifCond .eq 7, 3) := by decide +kernel
theorem dX10_isOfPool_41 : decode cX10_isOfPool 41 = .ok (.iconst 1, 1) := by decide +kernel
theorem dX10_isOfPool_42 : decode cX10_isOfPool 42 = .ok (.goto 4, 3) := by decide +kernel
theorem dX10_isOfPool_45 : decode cX10_isOfPool 45 = .ok (.iconst 0, 1) := by decide +kernel
theorem dX10_isOfPool_46 : decode cX10_isOfPool 46 = .ok (.ireturn, 1) := by decide +kernel
set_option maxRecDepth 20000 in
theorem ggX10_insideBy_X10_isOfPool : GoodIn wsX10_insideBy wsX10_isOfPool := goodIn_r _ [6, 1, 7, 8, 9, 5, 10, 11, 12, 13, 14, 15, 16, 17, 18, 19, 20, 21, 22, 23] (by decide +kernel) (by decide +kernel)
set_option maxRecDepth 20000 in
theorem gX10_insideBy_X10_isOfPool : GoodIn wsX10_insideBy (wsV RX10 100 RX10 yX10_isOfPool wsX10_isOfPool) := goodIn_app (goodIn_of _ (by decide +kernel)) ggX10_insideBy_X10_isOfPool
theorem dX10_insideBy_0 : decode cX10_insideBy 0 = .ok (.iconst 0, 1) := by decide +kernel
theorem dX10_insideBy_1 : decode cX10_insideBy 1 = .ok (.istore_n 2, 1) := by decide +kernel
theorem dX10_insideBy_2 : decode cX10_insideBy 2 = .ok (.iconst 0, 1) := by decide +kernel
theorem dX10_insideBy_3 : decode cX10_insideBy 3 = .ok (.istore_n 3, 1) := by decide +kernel
theorem dX10_insideBy_4 : decode cX10_insideBy 4 = .ok (.iload_n 3, 1) := by decide +kernel
theorem dX10_insideBy_5 : decode cX10_insideBy 5 = .ok (.aload_n 0, 1) := by decide +kernel
theorem dX10_insideBy_6 : decode cX10_insideBy 6 = .ok (.getfield 7, 3) := by decide +kernel
theorem dX10_insideBy_9 : decode cX10_insideBy 9 = .ok (.iconst 2, 1) := by decide +kernel
theorem dX10_insideBy_10 : decode cX10_insideBy 10 = .ok (.iaload, 1) := by decide +kernel
theorem dX10_insideBy_11 : decode cX10_insideBy 11 = .ok (.if_icmp .ge 26, 3) := by decide +kernel
theorem dX10_insideBy_14 : decode cX10_insideBy 14 = .ok (.iload_n 2, 1) := by decide +kernel
theorem dX10_insideBy_15 : decode cX10_insideBy 15 = .ok (.aload_n 0, 1) := by decide +kernel
theorem dX10_insideBy_16 : decode cX10_insideBy 16 = .ok (.iload_n 3, 1) := by decide +kernel
theorem dX10_insideBy_17 : decode cX10_insideBy 17 = .ok (.iload_n 1, 1) := by decide +kernel
theorem dX10_insideBy_18 : decode cX10_insideBy 18 = .ok (.invokevirtual 100, 3) := by decide +kernel
theorem dX10_insideBy_21 : decode cX10_insideBy 21 = .ok (.ifCond .eq 7, 3) := by decide +kernel
theorem dX10_insideBy_24 : decode cX10_insideBy 24 = .ok (.iconst 1, 1) := by decide +kernel
theorem dX10_insideBy_25 : decode cX10_insideBy 25 = .ok (.goto 4, 3) := by decide +kernel
theorem dX10_insideBy_28 : decode cX10_insideBy 28 = .ok (.iconst 0, 1) := by decide +kernel
theorem dX10_insideBy_29 : decode cX10_insideBy 29 = .ok (.iadd, 1) := by decide +kernel
theorem dX10_insideBy_30 : decode cX10_insideBy 30 = .ok (.istore_n 2, 1) := by decide +kernel
theorem dX10_insideBy_31 : decode cX10_insideBy 31 = .ok (.iinc 3 1, 3) := by decide +kernel
theorem dX10_insideBy_34 : decode cX10_insideBy 34 = .ok (.goto (-30), 3) := by decide +kernel
theorem dX10_insideBy_37 : decode cX10_insideBy 37 = .ok (.iload_n 2, 1) := by decide +kernel
theorem dX10_insideBy_38 : decode cX10_insideBy 38 = .ok (.ireturn, 1) := by decide +kernel
set_option maxRecDepth 20000 in
theorem ggX10_userOf_X10_of : GoodIn wsX10_userOf wsX10_of := goodIn_r _ [6, 1, 10, 11, 12, 13, 14, 15, 16, 17, 18, 19] (by decide +kernel) (by decide +kernel)
set_option maxRecDepth 20000 in
theorem gX10_userOf_X10_of : GoodIn wsX10_userOf (wsV RX10 64 RX10 yX10_of wsX10_of) := goodIn_app (goodIn_of _ (by decide +kernel)) ggX10_userOf_X10_of
set_option maxRecDepth 20000 in
theorem ggX10_userOf_X10_in : GoodIn wsX10_userOf wsX10_in := goodIn_r _ [9] (by decide +kernel) (by decide +kernel)
set_option maxRecDepth 20000 in
theorem gX10_userOf_X10_in : GoodIn wsX10_userOf (va_wsS RX10 34 yX10_in wsX10_in) := goodIn_app (goodIn_of _ (by decide +kernel)) ggX10_userOf_X10_in
theorem dX10_userOf_0 : decode cX10_userOf 0 = .ok (.iconst 0, 1) := by decide +kernel
theorem dX10_userOf_1 : decode cX10_userOf 1 = .ok (.istore_n 2, 1) := by decide +kernel
theorem dX10_userOf_2 : decode cX10_userOf 2 = .ok (.iload_n 2, 1) := by decide +kernel
theorem dX10_userOf_3 : decode cX10_userOf 3 = .ok (.aload_n 0, 1) := by decide +kernel
theorem dX10_userOf_4 : decode cX10_userOf 4 = .ok (.getfield 7, 3) := by decide +kernel
theorem dX10_userOf_7 : decode cX10_userOf 7 = .ok (.iconst 2, 1) := by decide +kernel
theorem dX10_userOf_8 : decode cX10_userOf 8 = .ok (.iaload, 1) := by decide +kernel
theorem dX10_userOf_9 : decode cX10_userOf 9 = .ok (.if_icmp .ge 35, 3) := by decide +kernel
theorem dX10_userOf_12 : decode cX10_userOf 12 = .ok (.aload_n 0, 1) := by decide +kernel
theorem dX10_userOf_13 : decode cX10_userOf 13 = .ok (.iload_n 2, 1) := by decide +kernel
theorem dX10_userOf_14 : decode cX10_userOf 14 = .ok (.iconst 1, 1) := by decide +kernel
theorem dX10_userOf_15 : decode cX10_userOf 15 = .ok (.invokevirtual 64, 3) := by decide +kernel
theorem dX10_userOf_18 : decode cX10_userOf 18 = .ok (.iload_n 1, 1) := by decide +kernel
theorem dX10_userOf_19 : decode cX10_userOf 19 = .ok (.if_icmp .ne 19, 3) := by decide +kernel
theorem dX10_userOf_22 : decode cX10_userOf 22 = .ok (.aload_n 0, 1) := by decide +kernel
theorem dX10_userOf_23 : decode cX10_userOf 23 = .ok (.iload_n 2, 1) := by decide +kernel
theorem dX10_userOf_24 : decode cX10_userOf 24 = .ok (.iconst 0, 1) := by decide +kernel
theorem dX10_userOf_25 : decode cX10_userOf 25 = .ok (.invokevirtual 64, 3) := by decide +kernel
theorem dX10_userOf_28 : decode cX10_userOf 28 = .ok (.iconst 2, 1) := by decide +kernel
theorem dX10_userOf_29 : decode cX10_userOf 29 = .ok (.iconst 4, 1) := by decide +kernel
theorem dX10_userOf_30 : decode cX10_userOf 30 = .ok (.invokestatic 34, 3) := by decide +kernel
theorem dX10_userOf_33 : decode cX10_userOf 33 = .ok (.ifCond .eq 5, 3) := by decide +kernel
theorem dX10_userOf_36 : decode cX10_userOf 36 = .ok (.iload_n 2, 1) := by decide +kernel
theorem dX10_userOf_37 : decode cX10_userOf 37 = .ok (.ireturn, 1) := by decide +kernel
theorem dX10_userOf_38 : decode cX10_userOf 38 = .ok (.iinc 2 1, 3) := by decide +kernel
theorem dX10_userOf_41 : decode cX10_userOf 41 = .ok (.goto (-39), 3) := by decide +kernel
theorem dX10_userOf_44 : decode cX10_userOf 44 = .ok (.bipush (-5), 2) := by decide +kernel
theorem dX10_userOf_46 : decode cX10_userOf 46 = .ok (.ireturn, 1) := by decide +kernel
set_option maxRecDepth 20000 in
theorem ggX10_refusal_X10_of : GoodIn wsX10_refusal wsX10_of := goodIn_r _ [6, 1, 22, 23, 24, 25, 26, 27, 28, 29, 30, 31] (by decide +kernel) (by decide +kernel)
set_option maxRecDepth 20000 in
theorem gX10_refusal_X10_of : GoodIn wsX10_refusal (wsV RX10 64 RX10 yX10_of wsX10_of) := goodIn_app (goodIn_of _ (by decide +kernel)) ggX10_refusal_X10_of
set_option maxRecDepth 20000 in
theorem ggX10_refusal_X10_userOf : GoodIn wsX10_refusal wsX10_userOf := goodIn_r _ [10, 1, 2, 3, 4, 5, 6, 11, 12, 13, 22, 23, 24, 25, 26, 27, 28, 29, 30, 31] (by decide +kernel) (by decide +kernel)
set_option maxRecDepth 20000 in
theorem gX10_refusal_X10_userOf : GoodIn wsX10_refusal (wsV RX10 104 RX10 yX10_userOf wsX10_userOf) := goodIn_app (goodIn_of _ (by decide +kernel)) ggX10_refusal_X10_userOf
set_option maxRecDepth 20000 in
theorem ggX10_refusal_X10_insideBy : GoodIn wsX10_refusal wsX10_insideBy := goodIn_r _ [17, 1, 18, 19, 20, 5, 21, 2, 3, 4, 6, 11, 12, 13, 22, 23, 24, 25, 26, 27, 28, 29, 30, 31] (by decide +kernel) (by decide +kernel)
set_option maxRecDepth 20000 in
theorem gX10_refusal_X10_insideBy : GoodIn wsX10_refusal (wsV RX10 107 RX10 yX10_insideBy wsX10_insideBy) := goodIn_app (goodIn_of _ (by decide +kernel)) ggX10_refusal_X10_insideBy
theorem dX10_refusal_0 : decode cX10_refusal 0 = .ok (.aload_n 0, 1) := by decide +kernel
theorem dX10_refusal_1 : decode cX10_refusal 1 = .ok (.iload_n 1, 1) := by decide +kernel
theorem dX10_refusal_2 : decode cX10_refusal 2 = .ok (.iconst 1, 1) := by decide +kernel
theorem dX10_refusal_3 : decode cX10_refusal 3 = .ok (.invokevirtual 64, 3) := by decide +kernel
theorem dX10_refusal_6 : decode cX10_refusal 6 = .ok (.istore_n 2, 1) := by decide +kernel
theorem dX10_refusal_7 : decode cX10_refusal 7 = .ok (.iload_n 2, 1) := by decide +kernel
theorem dX10_refusal_8 : decode cX10_refusal 8 = .ok (.ifCond .ge 5, 3) := by decide +kernel
theorem dX10_refusal_11 : decode cX10_refusal 11 = .ok (.iconst 1, 1) := by decide +kernel
theorem dX10_refusal_12 : decode cX10_refusal 12 = .ok (.ireturn, 1) := by decide +kernel
theorem dX10_refusal_13 : decode cX10_refusal 13 = .ok (.aload_n 0, 1) := by decide +kernel
theorem dX10_refusal_14 : decode cX10_refusal 14 = .ok (.getfield 7, 3) := by decide +kernel
theorem dX10_refusal_17 : decode cX10_refusal 17 = .ok (.sipush 400, 3) := by decide +kernel
theorem dX10_refusal_20 : decode cX10_refusal 20 = .ok (.iconst 2, 1) := by decide +kernel
theorem dX10_refusal_21 : decode cX10_refusal 21 = .ok (.iload_n 2, 1) := by decide +kernel
theorem dX10_refusal_22 : decode cX10_refusal 22 = .ok (.imul, 1) := by decide +kernel
theorem dX10_refusal_23 : decode cX10_refusal 23 = .ok (.iadd, 1) := by decide +kernel
theorem dX10_refusal_24 : decode cX10_refusal 24 = .ok (.iconst 1, 1) := by decide +kernel
theorem dX10_refusal_25 : decode cX10_refusal 25 = .ok (.iadd, 1) := by decide +kernel
theorem dX10_refusal_26 : decode cX10_refusal 26 = .ok (.iaload, 1) := by decide +kernel
theorem dX10_refusal_27 : decode cX10_refusal 27 = .ok (.iconst 1, 1) := by decide +kernel
theorem dX10_refusal_28 : decode cX10_refusal 28 = .ok (.if_icmp .ne 5, 3) := by decide +kernel
theorem dX10_refusal_31 : decode cX10_refusal 31 = .ok (.iconst 2, 1) := by decide +kernel
theorem dX10_refusal_32 : decode cX10_refusal 32 = .ok (.ireturn, 1) := by decide +kernel
theorem dX10_refusal_33 : decode cX10_refusal 33 = .ok (.aload_n 0, 1) := by decide +kernel
theorem dX10_refusal_34 : decode cX10_refusal 34 = .ok (.iload_n 2, 1) := by decide +kernel
theorem dX10_refusal_35 : decode cX10_refusal 35 = .ok (.invokevirtual 104, 3) := by decide +kernel
theorem dX10_refusal_38 : decode cX10_refusal 38 = .ok (.ifCond .lt 5, 3) := by decide +kernel
theorem dX10_refusal_41 : decode cX10_refusal 41 = .ok (.iconst 3, 1) := by decide +kernel
theorem dX10_refusal_42 : decode cX10_refusal 42 = .ok (.ireturn, 1) := by decide +kernel
theorem dX10_refusal_43 : decode cX10_refusal 43 = .ok (.aload_n 0, 1) := by decide +kernel
theorem dX10_refusal_44 : decode cX10_refusal 44 = .ok (.getfield 7, 3) := by decide +kernel
theorem dX10_refusal_47 : decode cX10_refusal 47 = .ok (.sipush 400, 3) := by decide +kernel
theorem dX10_refusal_50 : decode cX10_refusal 50 = .ok (.iconst 2, 1) := by decide +kernel
theorem dX10_refusal_51 : decode cX10_refusal 51 = .ok (.iload_n 2, 1) := by decide +kernel
theorem dX10_refusal_52 : decode cX10_refusal 52 = .ok (.imul, 1) := by decide +kernel
theorem dX10_refusal_53 : decode cX10_refusal 53 = .ok (.iadd, 1) := by decide +kernel
theorem dX10_refusal_54 : decode cX10_refusal 54 = .ok (.iaload, 1) := by decide +kernel
theorem dX10_refusal_55 : decode cX10_refusal 55 = .ok (.istore_n 3, 1) := by decide +kernel
theorem dX10_refusal_56 : decode cX10_refusal 56 = .ok (.aload_n 0, 1) := by decide +kernel
theorem dX10_refusal_57 : decode cX10_refusal 57 = .ok (.iload_n 3, 1) := by decide +kernel
theorem dX10_refusal_58 : decode cX10_refusal 58 = .ok (.invokevirtual 107, 3) := by decide +kernel
theorem dX10_refusal_61 : decode cX10_refusal 61 = .ok (.aload_n 0, 1) := by decide +kernel
theorem dX10_refusal_62 : decode cX10_refusal 62 = .ok (.getfield 7, 3) := by decide +kernel
theorem dX10_refusal_65 : decode cX10_refusal 65 = .ok (.sipush 424, 3) := by decide +kernel
theorem dX10_refusal_68 : decode cX10_refusal 68 = .ok (.iconst 3, 1) := by decide +kernel
theorem dX10_refusal_69 : decode cX10_refusal 69 = .ok (.iload_n 3, 1) := by decide +kernel
theorem dX10_refusal_70 : decode cX10_refusal 70 = .ok (.imul, 1) := by decide +kernel
theorem dX10_refusal_71 : decode cX10_refusal 71 = .ok (.iadd, 1) := by decide +kernel
theorem dX10_refusal_72 : decode cX10_refusal 72 = .ok (.iconst 1, 1) := by decide +kernel
theorem dX10_refusal_73 : decode cX10_refusal 73 = .ok (.iadd, 1) := by decide +kernel
theorem dX10_refusal_74 : decode cX10_refusal 74 = .ok (.iaload, 1) := by decide +kernel
theorem dX10_refusal_75 : decode cX10_refusal 75 = .ok (.if_icmp .lt 5, 3) := by decide +kernel
theorem dX10_refusal_78 : decode cX10_refusal 78 = .ok (.iconst 4, 1) := by decide +kernel
theorem dX10_refusal_79 : decode cX10_refusal 79 = .ok (.ireturn, 1) := by decide +kernel
theorem dX10_refusal_80 : decode cX10_refusal 80 = .ok (.aload_n 0, 1) := by decide +kernel
theorem dX10_refusal_81 : decode cX10_refusal 81 = .ok (.getfield 7, 3) := by decide +kernel
theorem dX10_refusal_84 : decode cX10_refusal 84 = .ok (.sipush 424, 3) := by decide +kernel
theorem dX10_refusal_87 : decode cX10_refusal 87 = .ok (.iconst 3, 1) := by decide +kernel
theorem dX10_refusal_88 : decode cX10_refusal 88 = .ok (.iload_n 3, 1) := by decide +kernel
theorem dX10_refusal_89 : decode cX10_refusal 89 = .ok (.imul, 1) := by decide +kernel
theorem dX10_refusal_90 : decode cX10_refusal 90 = .ok (.iadd, 1) := by decide +kernel
theorem dX10_refusal_91 : decode cX10_refusal 91 = .ok (.iaload, 1) := by decide +kernel
theorem dX10_refusal_92 : decode cX10_refusal 92 = .ok (.aload_n 0, 1) := by decide +kernel
theorem dX10_refusal_93 : decode cX10_refusal 93 = .ok (.getfield 7, 3) := by decide +kernel
theorem dX10_refusal_96 : decode cX10_refusal 96 = .ok (.bipush 6, 2) := by decide +kernel
