theorem dX10_refusal_98 : decode cX10_refusal 98 = .ok (.iaload, 1) := by decide +kernel
theorem dX10_refusal_99 : decode cX10_refusal 99 = .ok (.if_icmp .ge 7, 3) := by decide +kernel
theorem dX10_refusal_102 : decode cX10_refusal 102 = .ok (.iconst 5, 1) := by decide +kernel
theorem dX10_refusal_103 : decode cX10_refusal 103 = .ok (.goto 4, 3) := by decide +kernel
theorem dX10_refusal_106 : decode cX10_refusal 106 = .ok (.iconst 0, 1) := by decide +kernel
theorem dX10_refusal_107 : decode cX10_refusal 107 = .ok (.ireturn, 1) := by decide +kernel
set_option maxRecDepth 20000 in
theorem ggX10_waited_X10_of : GoodIn wsX10_waited wsX10_of := goodIn_r _ [6, 1, 7, 8, 9, 10, 11, 12, 13, 14, 15, 16] (by decide +kernel) (by decide +kernel)
set_option maxRecDepth 20000 in
theorem gX10_waited_X10_of : GoodIn wsX10_waited (wsV RX10 64 RX10 yX10_of wsX10_of) := goodIn_app (goodIn_of _ (by decide +kernel)) ggX10_waited_X10_of
theorem dX10_waited_0 : decode cX10_waited 0 = .ok (.aload_n 0, 1) := by decide +kernel
theorem dX10_waited_1 : decode cX10_waited 1 = .ok (.getfield 7, 3) := by decide +kernel
theorem dX10_waited_4 : decode cX10_waited 4 = .ok (.iconst 0, 1) := by decide +kernel
theorem dX10_waited_5 : decode cX10_waited 5 = .ok (.iaload, 1) := by decide +kernel
theorem dX10_waited_6 : decode cX10_waited 6 = .ok (.aload_n 0, 1) := by decide +kernel
theorem dX10_waited_7 : decode cX10_waited 7 = .ok (.iload_n 1, 1) := by decide +kernel
theorem dX10_waited_8 : decode cX10_waited 8 = .ok (.iconst 5, 1) := by decide +kernel
theorem dX10_waited_9 : decode cX10_waited 9 = .ok (.invokevirtual 64, 3) := by decide +kernel
theorem dX10_waited_12 : decode cX10_waited 12 = .ok (.isub, 1) := by decide +kernel
theorem dX10_waited_13 : decode cX10_waited 13 = .ok (.ireturn, 1) := by decide +kernel
set_option maxRecDepth 20000 in
theorem ggX10_nextFor_X10_gateOf : GoodIn wsX10_nextFor wsX10_gateOf := goodIn_r _ [5, 6, 23, 24, 25, 26, 27, 28, 29, 30, 31, 32] (by decide +kernel) (by decide +kernel)
set_option maxRecDepth 20000 in
theorem gX10_nextFor_X10_gateOf : GoodIn wsX10_nextFor (wsV RX10 52 RX10 yX10_gateOf wsX10_gateOf) := goodIn_app (goodIn_of _ (by decide +kernel)) ggX10_nextFor_X10_gateOf
set_option maxRecDepth 20000 in
theorem ggX10_nextFor_X10_queuedAt : GoodIn wsX10_nextFor wsX10_queuedAt := goodIn_r _ [10, 6, 11, 12, 13, 4, 14, 15, 16, 17, 18, 23, 24, 25, 26, 27, 28, 29, 30, 31, 32] (by decide +kernel) (by decide +kernel)
set_option maxRecDepth 20000 in
theorem gX10_nextFor_X10_queuedAt : GoodIn wsX10_nextFor (wsV RX10 89 RX10 yX10_queuedAt wsX10_queuedAt) := goodIn_app (goodIn_of _ (by decide +kernel)) ggX10_nextFor_X10_queuedAt
set_option maxRecDepth 20000 in
theorem ggX10_nextFor_X10_waited : GoodIn wsX10_nextFor wsX10_waited := goodIn_r _ [22, 6, 15, 16, 17, 4, 18, 23, 24, 25, 26, 27, 28, 29, 30, 31, 32] (by decide +kernel) (by decide +kernel)
set_option maxRecDepth 20000 in
theorem gX10_nextFor_X10_waited : GoodIn wsX10_nextFor (wsV RX10 110 RX10 yX10_waited wsX10_waited) := goodIn_app (goodIn_of _ (by decide +kernel)) ggX10_nextFor_X10_waited
theorem dX10_nextFor_0 : decode cX10_nextFor 0 = .ok (.aload_n 0, 1) := by decide +kernel
theorem dX10_nextFor_1 : decode cX10_nextFor 1 = .ok (.iload_n 1, 1) := by decide +kernel
theorem dX10_nextFor_2 : decode cX10_nextFor 2 = .ok (.iconst 0, 1) := by decide +kernel
theorem dX10_nextFor_3 : decode cX10_nextFor 3 = .ok (.invokevirtual 52, 3) := by decide +kernel
theorem dX10_nextFor_6 : decode cX10_nextFor 6 = .ok (.iconst 2, 1) := by decide +kernel
theorem dX10_nextFor_7 : decode cX10_nextFor 7 = .ok (.if_icmp .ne 8, 3) := by decide +kernel
theorem dX10_nextFor_10 : decode cX10_nextFor 10 = .ok (.bipush (-5), 2) := by decide +kernel
theorem dX10_nextFor_12 : decode cX10_nextFor 12 = .ok (.goto 10, 3) := by decide +kernel
theorem dX10_nextFor_15 : decode cX10_nextFor 15 = .ok (.aload_n 0, 1) := by decide +kernel
theorem dX10_nextFor_16 : decode cX10_nextFor 16 = .ok (.iload_n 1, 1) := by decide +kernel
theorem dX10_nextFor_17 : decode cX10_nextFor 17 = .ok (.iconst 0, 1) := by decide +kernel
theorem dX10_nextFor_18 : decode cX10_nextFor 18 = .ok (.iconst 0, 1) := by decide +kernel
theorem dX10_nextFor_19 : decode cX10_nextFor 19 = .ok (.invokevirtual 89, 3) := by decide +kernel
theorem dX10_nextFor_22 : decode cX10_nextFor 22 = .ok (.istore_n 2, 1) := by decide +kernel
theorem dX10_nextFor_23 : decode cX10_nextFor 23 = .ok (.aload_n 0, 1) := by decide +kernel
theorem dX10_nextFor_24 : decode cX10_nextFor 24 = .ok (.iload_n 1, 1) := by decide +kernel
theorem dX10_nextFor_25 : decode cX10_nextFor 25 = .ok (.iconst 0, 1) := by decide +kernel
theorem dX10_nextFor_26 : decode cX10_nextFor 26 = .ok (.invokevirtual 52, 3) := by decide +kernel
theorem dX10_nextFor_29 : decode cX10_nextFor 29 = .ok (.iconst 1, 1) := by decide +kernel
theorem dX10_nextFor_30 : decode cX10_nextFor 30 = .ok (.if_icmp .ne 8, 3) := by decide +kernel
theorem dX10_nextFor_33 : decode cX10_nextFor 33 = .ok (.bipush (-5), 2) := by decide +kernel
theorem dX10_nextFor_35 : decode cX10_nextFor 35 = .ok (.goto 10, 3) := by decide +kernel
theorem dX10_nextFor_38 : decode cX10_nextFor 38 = .ok (.aload_n 0, 1) := by decide +kernel
theorem dX10_nextFor_39 : decode cX10_nextFor 39 = .ok (.iload_n 1, 1) := by decide +kernel
theorem dX10_nextFor_40 : decode cX10_nextFor 40 = .ok (.iconst 1, 1) := by decide +kernel
theorem dX10_nextFor_41 : decode cX10_nextFor 41 = .ok (.iconst 0, 1) := by decide +kernel
theorem dX10_nextFor_42 : decode cX10_nextFor 42 = .ok (.invokevirtual 89, 3) := by decide +kernel
theorem dX10_nextFor_45 : decode cX10_nextFor 45 = .ok (.istore_n 3, 1) := by decide +kernel
theorem dX10_nextFor_46 : decode cX10_nextFor 46 = .ok (.iload_n 2, 1) := by decide +kernel
theorem dX10_nextFor_47 : decode cX10_nextFor 47 = .ok (.ifCond .ge 7, 3) := by decide +kernel
theorem dX10_nextFor_50 : decode cX10_nextFor 50 = .ok (.iload_n 3, 1) := by decide +kernel
theorem dX10_nextFor_51 : decode cX10_nextFor 51 = .ok (.goto 29, 3) := by decide +kernel
theorem dX10_nextFor_54 : decode cX10_nextFor 54 = .ok (.iload_n 3, 1) := by decide +kernel
theorem dX10_nextFor_55 : decode cX10_nextFor 55 = .ok (.ifCond .ge 7, 3) := by decide +kernel
theorem dX10_nextFor_58 : decode cX10_nextFor 58 = .ok (.iload_n 2, 1) := by decide +kernel
theorem dX10_nextFor_59 : decode cX10_nextFor 59 = .ok (.goto 21, 3) := by decide +kernel
theorem dX10_nextFor_62 : decode cX10_nextFor 62 = .ok (.aload_n 0, 1) := by decide +kernel
theorem dX10_nextFor_63 : decode cX10_nextFor 63 = .ok (.iload_n 2, 1) := by decide +kernel
theorem dX10_nextFor_64 : decode cX10_nextFor 64 = .ok (.invokevirtual 110, 3) := by decide +kernel
theorem dX10_nextFor_67 : decode cX10_nextFor 67 = .ok (.aload_n 0, 1) := by decide +kernel
theorem dX10_nextFor_68 : decode cX10_nextFor 68 = .ok (.iload_n 3, 1) := by decide +kernel
theorem dX10_nextFor_69 : decode cX10_nextFor 69 = .ok (.invokevirtual 110, 3) := by decide +kernel
theorem dX10_nextFor_72 : decode cX10_nextFor 72 = .ok (.if_icmp .le 7, 3) := by decide +kernel
theorem dX10_nextFor_75 : decode cX10_nextFor 75 = .ok (.iload_n 2, 1) := by decide +kernel
theorem dX10_nextFor_76 : decode cX10_nextFor 76 = .ok (.goto 4, 3) := by decide +kernel
theorem dX10_nextFor_79 : decode cX10_nextFor 79 = .ok (.iload_n 3, 1) := by decide +kernel
theorem dX10_nextFor_80 : decode cX10_nextFor 80 = .ok (.ireturn, 1) := by decide +kernel
set_option maxRecDepth 20000 in
theorem ggX10_takeNext_X10_nextFor : GoodIn wsX10_takeNext wsX10_nextFor := goodIn_r _ [6, 7, 8, 9, 5, 10, 1, 11, 12, 13, 14, 15, 16, 17, 18, 19, 20, 21, 22, 23, 24, 25, 26, 62, 63, 64, 65, 66, 67, 68, 69, 70, 71] (by decide +kernel) (by decide +kernel)
set_option maxRecDepth 20000 in
theorem gX10_takeNext_X10_nextFor : GoodIn wsX10_takeNext (wsV RX10 113 RX10 yX10_nextFor wsX10_nextFor) := goodIn_app (goodIn_of _ (by decide +kernel)) ggX10_takeNext_X10_nextFor
set_option maxRecDepth 20000 in
theorem ggX10_takeNext_X10_of : GoodIn wsX10_takeNext wsX10_of := goodIn_r _ [22, 1, 62, 63, 64, 65, 66, 67, 68, 69, 70, 71] (by decide +kernel) (by decide +kernel)
set_option maxRecDepth 20000 in
theorem gX10_takeNext_X10_of : GoodIn wsX10_takeNext (wsV RX10 64 RX10 yX10_of wsX10_of) := goodIn_app (goodIn_of _ (by decide +kernel)) ggX10_takeNext_X10_of
set_option maxRecDepth 20000 in
theorem ggX10_takeNext_X10_refusal : GoodIn wsX10_takeNext wsX10_refusal := goodIn_r _ [30, 1, 19, 20, 21, 5, 22, 31, 32, 33, 34, 35, 36, 37, 38, 39, 40, 41, 42, 43, 44, 45, 62, 63, 64, 65, 66, 67, 68, 69, 70, 71] (by decide +kernel) (by decide +kernel)
set_option maxRecDepth 20000 in
theorem gX10_takeNext_X10_refusal : GoodIn wsX10_takeNext (wsV RX10 116 RX10 yX10_refusal wsX10_refusal) := goodIn_app (goodIn_of _ (by decide +kernel)) ggX10_takeNext_X10_refusal
set_option maxRecDepth 20000 in
theorem ggX10_takeNext_X10_put : GoodIn wsX10_takeNext wsX10_put := goodIn_r _ [49, 1, 62, 63, 64, 65, 66, 67, 68, 69, 70, 71] (by decide +kernel) (by decide +kernel)
set_option maxRecDepth 20000 in
theorem gX10_takeNext_X10_put : GoodIn wsX10_takeNext (wsV RX10 70 RX10 yX10_put wsX10_put) := goodIn_app (goodIn_of _ (by decide +kernel)) ggX10_takeNext_X10_put
set_option maxRecDepth 20000 in
theorem ggX10_takeNext_X10_gateOf : GoodIn wsX10_takeNext wsX10_gateOf := goodIn_r _ [10, 1, 62, 63, 64, 65, 66, 67, 68, 69, 70, 71] (by decide +kernel) (by decide +kernel)
set_option maxRecDepth 20000 in
theorem gX10_takeNext_X10_gateOf : GoodIn wsX10_takeNext (wsV RX10 52 RX10 yX10_gateOf wsX10_gateOf) := goodIn_app (goodIn_of _ (by decide +kernel)) ggX10_takeNext_X10_gateOf
set_option maxRecDepth 20000 in
theorem ggX10_takeNext_X10_putGate : GoodIn wsX10_takeNext wsX10_putGate := goodIn_r _ [53, 1, 62, 63, 64, 65, 66, 67, 68, 69, 70, 71] (by decide +kernel) (by decide +kernel)
set_option maxRecDepth 20000 in
theorem gX10_takeNext_X10_putGate : GoodIn wsX10_takeNext (wsV RX10 41 RX10 yX10_putGate wsX10_putGate) := goodIn_app (goodIn_of _ (by decide +kernel)) ggX10_takeNext_X10_putGate
set_option maxRecDepth 20000 in
theorem ggX10_takeNext_X10_tell : GoodIn wsX10_takeNext wsX10_tell := goodIn_r _ [57, 1, 62, 63, 64, 65, 66, 67, 68, 69, 70, 71] (by decide +kernel) (by decide +kernel)
set_option maxRecDepth 20000 in
theorem gX10_takeNext_X10_tell : GoodIn wsX10_takeNext (wsV RX10 93 RX10 yX10_tell wsX10_tell) := goodIn_app (goodIn_of _ (by decide +kernel)) ggX10_takeNext_X10_tell
set_option maxRecDepth 20000 in
theorem ggX10_takeNext_X10_turn : GoodIn wsX10_takeNext wsX10_turn := goodIn_r _ [61, 50, 51, 52, 5, 53, 1, 62, 63, 64, 65, 66, 67, 68, 69, 70, 71] (by decide +kernel) (by decide +kernel)
set_option maxRecDepth 20000 in
theorem gX10_takeNext_X10_turn : GoodIn wsX10_takeNext (wsV RX10 119 RX10 yX10_turn wsX10_turn) := goodIn_app (goodIn_of _ (by decide +kernel)) ggX10_takeNext_X10_turn
theorem dX10_takeNext_0 : decode cX10_takeNext 0 = .ok (.aload_n 0, 1) := by decide +kernel
theorem dX10_takeNext_1 : decode cX10_takeNext 1 = .ok (.iload_n 1, 1) := by decide +kernel
theorem dX10_takeNext_2 : decode cX10_takeNext 2 = .ok (.invokevirtual 113, 3) := by decide +kernel
theorem dX10_takeNext_5 : decode cX10_takeNext 5 = .ok (.istore_n 2, 1) := by decide +kernel
theorem dX10_takeNext_6 : decode cX10_takeNext 6 = .ok (.iload_n 2, 1) := by decide +kernel
theorem dX10_takeNext_7 : decode cX10_takeNext 7 = .ok (.ifCond .ge 4, 3) := by decide +kernel
theorem dX10_takeNext_10 : decode cX10_takeNext 10 = .ok (.return_, 1) := by decide +kernel
theorem dX10_takeNext_11 : decode cX10_takeNext 11 = .ok (.aload_n 0, 1) := by decide +kernel
theorem dX10_takeNext_12 : decode cX10_takeNext 12 = .ok (.iload_n 2, 1) := by decide +kernel
theorem dX10_takeNext_13 : decode cX10_takeNext 13 = .ok (.iconst 0, 1) := by decide +kernel
theorem dX10_takeNext_14 : decode cX10_takeNext 14 = .ok (.invokevirtual 64, 3) := by decide +kernel
theorem dX10_takeNext_17 : decode cX10_takeNext 17 = .ok (.iconst 1, 1) := by decide +kernel
theorem dX10_takeNext_18 : decode cX10_takeNext 18 = .ok (.if_icmp .ne 7, 3) := by decide +kernel
theorem dX10_takeNext_21 : decode cX10_takeNext 21 = .ok (.iconst 1, 1) := by decide +kernel
theorem dX10_takeNext_22 : decode cX10_takeNext 22 = .ok (.goto 4, 3) := by decide +kernel
theorem dX10_takeNext_25 : decode cX10_takeNext 25 = .ok (.iconst 0, 1) := by decide +kernel
theorem dX10_takeNext_26 : decode cX10_takeNext 26 = .ok (.istore_n 3, 1) := by decide +kernel
theorem dX10_takeNext_27 : decode cX10_takeNext 27 = .ok (.iload_n 3, 1) := by decide +kernel
theorem dX10_takeNext_28 : decode cX10_takeNext 28 = .ok (.ifCond .eq 11, 3) := by decide +kernel
theorem dX10_takeNext_31 : decode cX10_takeNext 31 = .ok (.aload_n 0, 1) := by decide +kernel
theorem dX10_takeNext_32 : decode cX10_takeNext 32 = .ok (.iload_n 2, 1) := by decide +kernel
theorem dX10_takeNext_33 : decode cX10_takeNext 33 = .ok (.invokevirtual 116, 3) := by decide +kernel
theorem dX10_takeNext_36 : decode cX10_takeNext 36 = .ok (.goto 4, 3) := by decide +kernel
theorem dX10_takeNext_39 : decode cX10_takeNext 39 = .ok (.iconst 0, 1) := by decide +kernel
theorem dX10_takeNext_40 : decode cX10_takeNext 40 = .ok (.istore 4, 2) := by decide +kernel
theorem dX10_takeNext_42 : decode cX10_takeNext 42 = .ok (.iload 4, 2) := by decide +kernel
theorem dX10_takeNext_44 : decode cX10_takeNext 44 = .ok (.ifCond .le 50, 3) := by decide +kernel
theorem dX10_takeNext_47 : decode cX10_takeNext 47 = .ok (.aload_n 0, 1) := by decide +kernel
theorem dX10_takeNext_48 : decode cX10_takeNext 48 = .ok (.iload_n 2, 1) := by decide +kernel
theorem dX10_takeNext_49 : decode cX10_takeNext 49 = .ok (.iconst 0, 1) := by decide +kernel
theorem dX10_takeNext_50 : decode cX10_takeNext 50 = .ok (.iconst 0, 1) := by decide +kernel
theorem dX10_takeNext_51 : decode cX10_takeNext 51 = .ok (.invokevirtual 70, 3) := by decide +kernel
theorem dX10_takeNext_54 : decode cX10_takeNext 54 = .ok (.aload_n 0, 1) := by decide +kernel
theorem dX10_takeNext_55 : decode cX10_takeNext 55 = .ok (.iload_n 2, 1) := by decide +kernel
theorem dX10_takeNext_56 : decode cX10_takeNext 56 = .ok (.iconst 3, 1) := by decide +kernel
theorem dX10_takeNext_57 : decode cX10_takeNext 57 = .ok (.bipush (-5), 2) := by decide +kernel
theorem dX10_takeNext_59 : decode cX10_takeNext 59 = .ok (.invokevirtual 70, 3) := by decide +kernel
theorem dX10_takeNext_62 : decode cX10_takeNext 62 = .ok (.aload_n 0, 1) := by decide +kernel
theorem dX10_takeNext_63 : decode cX10_takeNext 63 = .ok (.iload_n 2, 1) := by decide +kernel
theorem dX10_takeNext_64 : decode cX10_takeNext 64 = .ok (.iconst 4, 1) := by decide +kernel
theorem dX10_takeNext_65 : decode cX10_takeNext 65 = .ok (.iload 4, 2) := by decide +kernel
theorem dX10_takeNext_67 : decode cX10_takeNext 67 = .ok (.invokevirtual 70, 3) := by decide +kernel
theorem dX10_takeNext_70 : decode cX10_takeNext 70 = .ok (.aload_n 0, 1) := by decide +kernel
theorem dX10_takeNext_71 : decode cX10_takeNext 71 = .ok (.iload_n 1, 1) := by decide +kernel
theorem dX10_takeNext_72 : decode cX10_takeNext 72 = .ok (.bipush 12, 2) := by decide +kernel
theorem dX10_takeNext_74 : decode cX10_takeNext 74 = .ok (.aload_n 0, 1) := by decide +kernel
theorem dX10_takeNext_75 : decode cX10_takeNext 75 = .ok (.iload_n 1, 1) := by decide +kernel
theorem dX10_takeNext_76 : decode cX10_takeNext 76 = .ok (.bipush 12, 2) := by decide +kernel
theorem dX10_takeNext_78 : decode cX10_takeNext 78 = .ok (.invokevirtual 52, 3) := by decide +kernel
theorem dX10_takeNext_81 : decode cX10_takeNext 81 = .ok (.iconst 1, 1) := by decide +kernel
theorem dX10_takeNext_82 : decode cX10_takeNext 82 = .ok (.iadd, 1) := by decide +kernel
theorem dX10_takeNext_83 : decode cX10_takeNext 83 = .ok (.invokevirtual 41, 3) := by decide +kernel
theorem dX10_takeNext_86 : decode cX10_takeNext 86 = .ok (.aload_n 0, 1) := by decide +kernel
theorem dX10_takeNext_87 : decode cX10_takeNext 87 = .ok (.iload_n 1, 1) := by decide +kernel
theorem dX10_takeNext_88 : decode cX10_takeNext 88 = .ok (.iload_n 2, 1) := by decide +kernel
theorem dX10_takeNext_89 : decode cX10_takeNext 89 = .ok (.iconst 1, 1) := by decide +kernel
theorem dX10_takeNext_90 : decode cX10_takeNext 90 = .ok (.invokevirtual 93, 3) := by decide +kernel
theorem dX10_takeNext_93 : decode cX10_takeNext 93 = .ok (.return_, 1) := by decide +kernel
theorem dX10_takeNext_94 : decode cX10_takeNext 94 = .ok (.iload_n 3, 1) := by decide +kernel
theorem dX10_takeNext_95 : decode cX10_takeNext 95 = .ok (.ifCond .eq 71, 3) := by decide +kernel
theorem dX10_takeNext_98 : decode cX10_takeNext 98 = .ok (.sipush 424, 3) := by decide +kernel
theorem dX10_takeNext_101 : decode cX10_takeNext 101 = .ok (.iconst 3, 1) := by decide +kernel
theorem dX10_takeNext_102 : decode cX10_takeNext 102 = .ok (.aload_n 0, 1) := by decide +kernel
theorem dX10_takeNext_103 : decode cX10_takeNext 103 = .ok (.getfield 7, 3) := by decide +kernel
theorem dX10_takeNext_106 : decode cX10_takeNext 106 = .ok (.sipush 400, 3) := by decide +kernel
theorem dX10_takeNext_109 : decode cX10_takeNext 109 = .ok (.iconst 2, 1) := by decide +kernel
theorem dX10_takeNext_110 : decode cX10_takeNext 110 = .ok (.aload_n 0, 1) := by decide +kernel
theorem dX10_takeNext_111 : decode cX10_takeNext 111 = .ok (.iload_n 2, 1) := by decide +kernel
theorem dX10_takeNext_112 : decode cX10_takeNext 112 = .ok (.iconst 1, 1) := by decide +kernel
theorem dX10_takeNext_113 : decode cX10_takeNext 113 = .ok (.invokevirtual 64, 3) := by decide +kernel
theorem dX10_takeNext_116 : decode cX10_takeNext 116 = .ok (.imul, 1) := by decide +kernel
theorem dX10_takeNext_117 : decode cX10_takeNext 117 = .ok (.iadd, 1) := by decide +kernel
theorem dX10_takeNext_118 : decode cX10_takeNext 118 = .ok (.iaload, 1) := by decide +kernel
theorem dX10_takeNext_119 : decode cX10_takeNext 119 = .ok (.imul, 1) := by decide +kernel
theorem dX10_takeNext_120 : decode cX10_takeNext 120 = .ok (.iadd, 1) := by decide +kernel
theorem dX10_takeNext_121 : decode cX10_takeNext 121 = .ok (.istore 5, 2) := by decide +kernel
theorem dX10_takeNext_123 : decode cX10_takeNext 123 = .ok (.aload_n 0, 1) := by decide +kernel
theorem dX10_takeNext_124 : decode cX10_takeNext 124 = .ok (.getfield 7, 3) := by decide +kernel
theorem dX10_takeNext_127 : decode cX10_takeNext 127 = .ok (.iload 5, 2) := by decide +kernel
theorem dX10_takeNext_129 : decode cX10_takeNext 129 = .ok (.dup2, 1) := by decide +kernel
theorem dX10_takeNext_130 : decode cX10_takeNext 130 = .ok (.iaload, 1) := by decide +kernel
theorem dX10_takeNext_131 : decode cX10_takeNext 131 = .ok (.aload_n 0, 1) := by decide +kernel
theorem dX10_takeNext_132 : decode cX10_takeNext 132 = .ok (.getfield 7, 3) := by decide +kernel
theorem dX10_takeNext_135 : decode cX10_takeNext 135 = .ok (.bipush 6, 2) := by decide +kernel
theorem dX10_takeNext_137 : decode cX10_takeNext 137 = .ok (.iaload, 1) := by decide +kernel
theorem dX10_takeNext_138 : decode cX10_takeNext 138 = .ok (.isub, 1) := by decide +kernel
theorem dX10_takeNext_139 : decode cX10_takeNext 139 = .ok (.iastore, 1) := by decide +kernel
theorem dX10_takeNext_140 : decode cX10_takeNext 140 = .ok (.aload_n 0, 1) := by decide +kernel
theorem dX10_takeNext_141 : decode cX10_takeNext 141 = .ok (.getfield 7, 3) := by decide +kernel
theorem dX10_takeNext_144 : decode cX10_takeNext 144 = .ok (.iload 5, 2) := by decide +kernel
theorem dX10_takeNext_146 : decode cX10_takeNext 146 = .ok (.iconst 2, 1) := by decide +kernel
theorem dX10_takeNext_147 : decode cX10_takeNext 147 = .ok (.iadd, 1) := by decide +kernel
theorem dX10_takeNext_148 : decode cX10_takeNext 148 = .ok (.dup2, 1) := by decide +kernel
theorem dX10_takeNext_149 : decode cX10_takeNext 149 = .ok (.iaload, 1) := by decide +kernel
theorem dX10_takeNext_150 : decode cX10_takeNext 150 = .ok (.aload_n 0, 1) := by decide +kernel
theorem dX10_takeNext_151 : decode cX10_takeNext 151 = .ok (.getfield 7, 3) := by decide +kernel
theorem dX10_takeNext_154 : decode cX10_takeNext 154 = .ok (.bipush 6, 2) := by decide +kernel
theorem dX10_takeNext_156 : decode cX10_takeNext 156 = .ok (.iaload, 1) := by decide +kernel
theorem dX10_takeNext_157 : decode cX10_takeNext 157 = .ok (.iadd, 1) := by decide +kernel
theorem dX10_takeNext_158 : decode cX10_takeNext 158 = .ok (.iastore, 1) := by decide +kernel
theorem dX10_takeNext_159 : decode cX10_takeNext 159 = .ok (.aload_n 0, 1) := by decide +kernel
theorem dX10_takeNext_160 : decode cX10_takeNext 160 = .ok (.iload_n 1, 1) := by decide +kernel
theorem dX10_takeNext_161 : decode cX10_takeNext 161 = .ok (.iload_n 2, 1) := by decide +kernel
theorem dX10_takeNext_162 : decode cX10_takeNext 162 = .ok (.iconst 0, 1) := by decide +kernel
theorem dX10_takeNext_163 : decode cX10_takeNext 163 = .ok (.invokevirtual 93, 3) := by decide +kernel
theorem dX10_takeNext_166 : decode cX10_takeNext 166 = .ok (.aload_n 0, 1) := by decide +kernel
theorem dX10_takeNext_167 : decode cX10_takeNext 167 = .ok (.iload_n 2, 1) := by decide +kernel
theorem dX10_takeNext_168 : decode cX10_takeNext 168 = .ok (.iconst 0, 1) := by decide +kernel
theorem dX10_takeNext_169 : decode cX10_takeNext 169 = .ok (.iconst 2, 1) := by decide +kernel
theorem dX10_takeNext_170 : decode cX10_takeNext 170 = .ok (.invokevirtual 70, 3) := by decide +kernel
theorem dX10_takeNext_173 : decode cX10_takeNext 173 = .ok (.aload_n 0, 1) := by decide +kernel
theorem dX10_takeNext_174 : decode cX10_takeNext 174 = .ok (.iload_n 1, 1) := by decide +kernel
theorem dX10_takeNext_175 : decode cX10_takeNext 175 = .ok (.bipush 6, 2) := by decide +kernel
theorem dX10_takeNext_177 : decode cX10_takeNext 177 = .ok (.iload_n 2, 1) := by decide +kernel
theorem dX10_takeNext_178 : decode cX10_takeNext 178 = .ok (.invokevirtual 41, 3) := by decide +kernel
theorem dX10_takeNext_181 : decode cX10_takeNext 181 = .ok (.aload_n 0, 1) := by decide +kernel
theorem dX10_takeNext_182 : decode cX10_takeNext 182 = .ok (.iload_n 1, 1) := by decide +kernel
theorem dX10_takeNext_183 : decode cX10_takeNext 183 = .ok (.bipush 7, 2) := by decide +kernel
theorem dX10_takeNext_185 : decode cX10_takeNext 185 = .ok (.iload_n 3, 1) := by decide +kernel
theorem dX10_takeNext_186 : decode cX10_takeNext 186 = .ok (.ifCond .eq 7, 3) := by decide +kernel
theorem dX10_takeNext_189 : decode cX10_takeNext 189 = .ok (.iconst 1, 1) := by decide +kernel
theorem dX10_takeNext_190 : decode cX10_takeNext 190 = .ok (.goto 4, 3) := by decide +kernel
theorem dX10_takeNext_193 : decode cX10_takeNext 193 = .ok (.iconst 0, 1) := by decide +kernel
theorem dX10_takeNext_194 : decode cX10_takeNext 194 = .ok (.invokevirtual 41, 3) := by decide +kernel
theorem dX10_takeNext_197 : decode cX10_takeNext 197 = .ok (.aload_n 0, 1) := by decide +kernel
theorem dX10_takeNext_198 : decode cX10_takeNext 198 = .ok (.iload_n 1, 1) := by decide +kernel
theorem dX10_takeNext_199 : decode cX10_takeNext 199 = .ok (.bipush 8, 2) := by decide +kernel
theorem dX10_takeNext_201 : decode cX10_takeNext 201 = .ok (.iconst 0, 1) := by decide +kernel
theorem dX10_takeNext_202 : decode cX10_takeNext 202 = .ok (.invokevirtual 41, 3) := by decide +kernel
theorem dX10_takeNext_205 : decode cX10_takeNext 205 = .ok (.aload_n 0, 1) := by decide +kernel
theorem dX10_takeNext_206 : decode cX10_takeNext 206 = .ok (.iload_n 1, 1) := by decide +kernel
theorem dX10_takeNext_207 : decode cX10_takeNext 207 = .ok (.iconst 1, 1) := by decide +kernel
theorem dX10_takeNext_208 : decode cX10_takeNext 208 = .ok (.aload_n 0, 1) := by decide +kernel
theorem dX10_takeNext_209 : decode cX10_takeNext 209 = .ok (.iload_n 1, 1) := by decide +kernel
theorem dX10_takeNext_210 : decode cX10_takeNext 210 = .ok (.iconst 1, 1) := by decide +kernel
theorem dX10_takeNext_211 : decode cX10_takeNext 211 = .ok (.invokevirtual 52, 3) := by decide +kernel
theorem dX10_takeNext_214 : decode cX10_takeNext 214 = .ok (.invokevirtual 119, 3) := by decide +kernel
theorem dX10_takeNext_217 : decode cX10_takeNext 217 = .ok (.return_, 1) := by decide +kernel
set_option maxRecDepth 20000 in
theorem ggX10_turn_X10_putGate : GoodIn wsX10_turn wsX10_putGate := goodIn_r _ [5, 6, 7, 8, 9, 10, 11, 12, 13, 14, 15, 16] (by decide +kernel) (by decide +kernel)
set_option maxRecDepth 20000 in
theorem gX10_turn_X10_putGate : GoodIn wsX10_turn (wsV RX10 41 RX10 yX10_putGate wsX10_putGate) := goodIn_app (goodIn_of _ (by decide +kernel)) ggX10_turn_X10_putGate
theorem dX10_turn_0 : decode cX10_turn 0 = .ok (.aload_n 0, 1) := by decide +kernel
theorem dX10_turn_1 : decode cX10_turn 1 = .ok (.iload_n 1, 1) := by decide +kernel
theorem dX10_turn_2 : decode cX10_turn 2 = .ok (.iconst 4, 1) := by decide +kernel
theorem dX10_turn_3 : decode cX10_turn 3 = .ok (.iload_n 2, 1) := by decide +kernel
theorem dX10_turn_4 : decode cX10_turn 4 = .ok (.invokevirtual 41, 3) := by decide +kernel
theorem dX10_turn_7 : decode cX10_turn 7 = .ok (.aload_n 0, 1) := by decide +kernel
theorem dX10_turn_8 : decode cX10_turn 8 = .ok (.iload_n 1, 1) := by decide +kernel
theorem dX10_turn_9 : decode cX10_turn 9 = .ok (.iconst 5, 1) := by decide +kernel
theorem dX10_turn_10 : decode cX10_turn 10 = .ok (.iload_n 3, 1) := by decide +kernel
theorem dX10_turn_11 : decode cX10_turn 11 = .ok (.invokevirtual 41, 3) := by decide +kernel
theorem dX10_turn_14 : decode cX10_turn 14 = .ok (.return_, 1) := by decide +kernel
set_option maxRecDepth 20000 in
theorem ggX10_opened_X10_gateOf : GoodIn wsX10_opened wsX10_gateOf := goodIn_r _ [5, 6, 19, 20, 21, 22, 23, 24, 25, 26, 27, 28] (by decide +kernel) (by decide +kernel)
set_option maxRecDepth 20000 in
theorem gX10_opened_X10_gateOf : GoodIn wsX10_opened (wsV RX10 52 RX10 yX10_gateOf wsX10_gateOf) := goodIn_app (goodIn_of _ (by decide +kernel)) ggX10_opened_X10_gateOf
set_option maxRecDepth 20000 in
theorem ggX10_opened_X10_of : GoodIn wsX10_opened wsX10_of := goodIn_r _ [10, 6, 19, 20, 21, 22, 23, 24, 25, 26, 27, 28] (by decide +kernel) (by decide +kernel)
set_option maxRecDepth 20000 in
theorem gX10_opened_X10_of : GoodIn wsX10_opened (wsV RX10 64 RX10 yX10_of wsX10_of) := goodIn_app (goodIn_of _ (by decide +kernel)) ggX10_opened_X10_of
set_option maxRecDepth 20000 in
theorem ggX10_opened_X10_turn : GoodIn wsX10_opened wsX10_turn := goodIn_r _ [14, 15, 16, 17, 4, 18, 6, 19, 20, 21, 22, 23, 24, 25, 26, 27, 28] (by decide +kernel) (by decide +kernel)
set_option maxRecDepth 20000 in
theorem gX10_opened_X10_turn : GoodIn wsX10_opened (wsV RX10 119 RX10 yX10_turn wsX10_turn) := goodIn_app (goodIn_of _ (by decide +kernel)) ggX10_opened_X10_turn
theorem dX10_opened_0 : decode cX10_opened 0 = .ok (.aload_n 0, 1) := by decide +kernel
theorem dX10_opened_1 : decode cX10_opened 1 = .ok (.iload_n 1, 1) := by decide +kernel
theorem dX10_opened_2 : decode cX10_opened 2 = .ok (.iconst 2, 1) := by decide +kernel
theorem dX10_opened_3 : decode cX10_opened 3 = .ok (.aload_n 0, 1) := by decide +kernel
theorem dX10_opened_4 : decode cX10_opened 4 = .ok (.iload_n 1, 1) := by decide +kernel
theorem dX10_opened_5 : decode cX10_opened 5 = .ok (.iconst 2, 1) := by decide +kernel
theorem dX10_opened_6 : decode cX10_opened 6 = .ok (.invokevirtual 52, 3) := by decide +kernel
theorem dX10_opened_9 : decode cX10_opened 9 = .ok (.iconst 2, 1) := by decide +kernel
theorem dX10_opened_10 : decode cX10_opened 10 = .ok (.aload_n 0, 1) := by decide +kernel
theorem dX10_opened_11 : decode cX10_opened 11 = .ok (.aload_n 0, 1) := by decide +kernel
theorem dX10_opened_12 : decode cX10_opened 12 = .ok (.iload_n 1, 1) := by decide +kernel
theorem dX10_opened_13 : decode cX10_opened 13 = .ok (.bipush 6, 2) := by decide +kernel
theorem dX10_opened_15 : decode cX10_opened 15 = .ok (.invokevirtual 52, 3) := by decide +kernel
theorem dX10_opened_18 : decode cX10_opened 18 = .ok (.iconst 2, 1) := by decide +kernel
theorem dX10_opened_19 : decode cX10_opened 19 = .ok (.invokevirtual 64, 3) := by decide +kernel
theorem dX10_opened_22 : decode cX10_opened 22 = .ok (.imul, 1) := by decide +kernel
theorem dX10_opened_23 : decode cX10_opened 23 = .ok (.iadd, 1) := by decide +kernel
theorem dX10_opened_24 : decode cX10_opened 24 = .ok (.invokevirtual 119, 3) := by decide +kernel
theorem dX10_opened_27 : decode cX10_opened 27 = .ok (.return_, 1) := by decide +kernel
set_option maxRecDepth 20000 in
theorem ggX10_pinched_X10_putGate : GoodIn wsX10_pinched wsX10_putGate := goodIn_r _ [5, 6, 31, 32, 33, 34, 35, 36, 37, 38, 39, 40] (by decide +kernel) (by decide +kernel)
set_option maxRecDepth 20000 in
theorem gX10_pinched_X10_putGate : GoodIn wsX10_pinched (wsV RX10 41 RX10 yX10_putGate wsX10_putGate) := goodIn_app (goodIn_of _ (by decide +kernel)) ggX10_pinched_X10_putGate
set_option maxRecDepth 20000 in
theorem ggX10_pinched_X10_gateOf : GoodIn wsX10_pinched wsX10_gateOf := goodIn_r _ [10, 6, 31, 32, 33, 34, 35, 36, 37, 38, 39, 40] (by decide +kernel) (by decide +kernel)
set_option maxRecDepth 20000 in
theorem gX10_pinched_X10_gateOf : GoodIn wsX10_pinched (wsV RX10 52 RX10 yX10_gateOf wsX10_gateOf) := goodIn_app (goodIn_of _ (by decide +kernel)) ggX10_pinched_X10_gateOf
set_option maxRecDepth 20000 in
theorem ggX10_pinched_X10_tell : GoodIn wsX10_pinched wsX10_tell := goodIn_r _ [14, 6, 31, 32, 33, 34, 35, 36, 37, 38, 39, 40] (by decide +kernel) (by decide +kernel)
set_option maxRecDepth 20000 in
theorem gX10_pinched_X10_tell : GoodIn wsX10_pinched (wsV RX10 93 RX10 yX10_tell wsX10_tell) := goodIn_app (goodIn_of _ (by decide +kernel)) ggX10_pinched_X10_tell
set_option maxRecDepth 20000 in
theorem ggX10_pinched_X10_goOut : GoodIn wsX10_pinched wsX10_goOut := goodIn_r _ [18, 1, 2, 3, 4, 5, 6, 11, 12, 13, 14, 7, 8, 9, 10, 19, 20, 21, 22, 23, 24, 25, 26, 31, 32, 33, 34, 35, 36, 37, 38, 39, 40] (by decide +kernel) (by decide +kernel)
set_option maxRecDepth 20000 in
theorem gX10_pinched_X10_goOut : GoodIn wsX10_pinched (wsV RX10 122 RX10 yX10_goOut wsX10_goOut) := goodIn_app (goodIn_of _ (by decide +kernel)) ggX10_pinched_X10_goOut
set_option maxRecDepth 20000 in
theorem ggX10_pinched_X10_turn : GoodIn wsX10_pinched wsX10_turn := goodIn_r _ [30, 1, 2, 3, 4, 5, 6, 31, 32, 33, 34, 35, 36, 37, 38, 39, 40] (by decide +kernel) (by decide +kernel)
set_option maxRecDepth 20000 in
theorem gX10_pinched_X10_turn : GoodIn wsX10_pinched (wsV RX10 119 RX10 yX10_turn wsX10_turn) := goodIn_app (goodIn_of _ (by decide +kernel)) ggX10_pinched_X10_turn
theorem dX10_pinched_0 : decode cX10_pinched 0 = .ok (.aload_n 0, 1) := by decide +kernel
theorem dX10_pinched_1 : decode cX10_pinched 1 = .ok (.iload_n 1, 1) := by decide +kernel
theorem dX10_pinched_2 : decode cX10_pinched 2 = .ok (.bipush 9, 2) := by decide +kernel
theorem dX10_pinched_4 : decode cX10_pinched 4 = .ok (.iconst 0, 1) := by decide +kernel
theorem dX10_pinched_5 : decode cX10_pinched 5 = .ok (.invokevirtual 41, 3) := by decide +kernel
theorem dX10_pinched_8 : decode cX10_pinched 8 = .ok (.aload_n 0, 1) := by decide +kernel
theorem dX10_pinched_9 : decode cX10_pinched 9 = .ok (.iload_n 1, 1) := by decide +kernel
theorem dX10_pinched_10 : decode cX10_pinched 10 = .ok (.bipush 13, 2) := by decide +kernel
theorem dX10_pinched_12 : decode cX10_pinched 12 = .ok (.aload_n 0, 1) := by decide +kernel
theorem dX10_pinched_13 : decode cX10_pinched 13 = .ok (.iload_n 1, 1) := by decide +kernel
theorem dX10_pinched_14 : decode cX10_pinched 14 = .ok (.bipush 13, 2) := by decide +kernel
theorem dX10_pinched_16 : decode cX10_pinched 16 = .ok (.invokevirtual 52, 3) := by decide +kernel
theorem dX10_pinched_19 : decode cX10_pinched 19 = .ok (.iconst 1, 1) := by decide +kernel
theorem dX10_pinched_20 : decode cX10_pinched 20 = .ok (.iadd, 1) := by decide +kernel
theorem dX10_pinched_21 : decode cX10_pinched 21 = .ok (.invokevirtual 41, 3) := by decide +kernel
theorem dX10_pinched_24 : decode cX10_pinched 24 = .ok (.aload_n 0, 1) := by decide +kernel
theorem dX10_pinched_25 : decode cX10_pinched 25 = .ok (.iload_n 1, 1) := by decide +kernel
theorem dX10_pinched_26 : decode cX10_pinched 26 = .ok (.bipush 8, 2) := by decide +kernel
theorem dX10_pinched_28 : decode cX10_pinched 28 = .ok (.aload_n 0, 1) := by decide +kernel
theorem dX10_pinched_29 : decode cX10_pinched 29 = .ok (.iload_n 1, 1) := by decide +kernel
theorem dX10_pinched_30 : decode cX10_pinched 30 = .ok (.bipush 8, 2) := by decide +kernel
theorem dX10_pinched_32 : decode cX10_pinched 32 = .ok (.invokevirtual 52, 3) := by decide +kernel
theorem dX10_pinched_35 : decode cX10_pinched 35 = .ok (.iconst 1, 1) := by decide +kernel
theorem dX10_pinched_36 : decode cX10_pinched 36 = .ok (.iadd, 1) := by decide +kernel
theorem dX10_pinched_37 : decode cX10_pinched 37 = .ok (.invokevirtual 41, 3) := by decide +kernel
theorem dX10_pinched_40 : decode cX10_pinched 40 = .ok (.aload_n 0, 1) := by decide +kernel
theorem dX10_pinched_41 : decode cX10_pinched 41 = .ok (.iload_n 1, 1) := by decide +kernel
theorem dX10_pinched_42 : decode cX10_pinched 42 = .ok (.aload_n 0, 1) := by decide +kernel
theorem dX10_pinched_43 : decode cX10_pinched 43 = .ok (.iload_n 1, 1) := by decide +kernel
theorem dX10_pinched_44 : decode cX10_pinched 44 = .ok (.bipush 6, 2) := by decide +kernel
theorem dX10_pinched_46 : decode cX10_pinched 46 = .ok (.invokevirtual 52, 3) := by decide +kernel
theorem dX10_pinched_49 : decode cX10_pinched 49 = .ok (.iconst 4, 1) := by decide +kernel
theorem dX10_pinched_50 : decode cX10_pinched 50 = .ok (.invokevirtual 93, 3) := by decide +kernel
theorem dX10_pinched_53 : decode cX10_pinched 53 = .ok (.aload_n 0, 1) := by decide +kernel
theorem dX10_pinched_54 : decode cX10_pinched 54 = .ok (.iload_n 1, 1) := by decide +kernel
theorem dX10_pinched_55 : decode cX10_pinched 55 = .ok (.bipush 8, 2) := by decide +kernel
theorem dX10_pinched_57 : decode cX10_pinched 57 = .ok (.invokevirtual 52, 3) := by decide +kernel
theorem dX10_pinched_60 : decode cX10_pinched 60 = .ok (.iconst 3, 1) := by decide +kernel
theorem dX10_pinched_61 : decode cX10_pinched 61 = .ok (.if_icmp .ne 11, 3) := by decide +kernel
theorem dX10_pinched_64 : decode cX10_pinched 64 = .ok (.aload_n 0, 1) := by decide +kernel
theorem dX10_pinched_65 : decode cX10_pinched 65 = .ok (.iload_n 1, 1) := by decide +kernel
theorem dX10_pinched_66 : decode cX10_pinched 66 = .ok (.invokevirtual 122, 3) := by decide +kernel
theorem dX10_pinched_69 : decode cX10_pinched 69 = .ok (.goto 22, 3) := by decide +kernel
theorem dX10_pinched_72 : decode cX10_pinched 72 = .ok (.aload_n 0, 1) := by decide +kernel
theorem dX10_pinched_73 : decode cX10_pinched 73 = .ok (.iload_n 1, 1) := by decide +kernel
theorem dX10_pinched_74 : decode cX10_pinched 74 = .ok (.iconst 4, 1) := by decide +kernel
theorem dX10_pinched_75 : decode cX10_pinched 75 = .ok (.aload_n 0, 1) := by decide +kernel
theorem dX10_pinched_76 : decode cX10_pinched 76 = .ok (.iload_n 1, 1) := by decide +kernel
theorem dX10_pinched_77 : decode cX10_pinched 77 = .ok (.iconst 3, 1) := by decide +kernel
theorem dX10_pinched_78 : decode cX10_pinched 78 = .ok (.invokevirtual 52, 3) := by decide +kernel
theorem dX10_pinched_81 : decode cX10_pinched 81 = .ok (.aload_n 0, 1) := by decide +kernel
theorem dX10_pinched_82 : decode cX10_pinched 82 = .ok (.iload_n 1, 1) := by decide +kernel
theorem dX10_pinched_83 : decode cX10_pinched 83 = .ok (.iconst 5, 1) := by decide +kernel
theorem dX10_pinched_84 : decode cX10_pinched 84 = .ok (.invokevirtual 52, 3) := by decide +kernel
theorem dX10_pinched_87 : decode cX10_pinched 87 = .ok (.isub, 1) := by decide +kernel
theorem dX10_pinched_88 : decode cX10_pinched 88 = .ok (.invokevirtual 119, 3) := by decide +kernel
theorem dX10_pinched_91 : decode cX10_pinched 91 = .ok (.return_, 1) := by decide +kernel
set_option maxRecDepth 20000 in
theorem ggX10_step_X10_gateOf : GoodIn wsX10_step wsX10_gateOf := goodIn_r _ [5, 6, 82, 83, 84, 85, 86, 87, 88, 89, 90, 91] (by decide +kernel) (by decide +kernel)
set_option maxRecDepth 20000 in
theorem gX10_step_X10_gateOf : GoodIn wsX10_step (wsV RX10 52 RX10 yX10_gateOf wsX10_gateOf) := goodIn_app (goodIn_of _ (by decide +kernel)) ggX10_step_X10_gateOf
set_option maxRecDepth 20000 in
theorem ggX10_step_X10_takeNext : GoodIn wsX10_step wsX10_takeNext := goodIn_r _ [10, 6, 11, 12, 13, 4, 14, 1, 2, 3, 5, 15, 16, 17, 18, 19, 20, 21, 22, 23, 24, 25, 26, 27, 28, 29, 30, 31, 32, 33, 34, 35, 36, 37, 38, 39, 40, 41, 42, 43, 44, 45, 46, 47, 48, 49, 50, 51, 52, 53, 54, 55, 56, 57, 58, 59, 60, 61, 62, 63, 64, 65, 82, 83, 84, 85, 86, 87, 88, 89, 90, 91] (by decide +kernel) (by decide +kernel)
set_option maxRecDepth 20000 in
theorem gX10_step_X10_takeNext : GoodIn wsX10_step (wsV RX10 125 RX10 yX10_takeNext wsX10_takeNext) := goodIn_app (goodIn_of _ (by decide +kernel)) ggX10_step_X10_takeNext
set_option maxRecDepth 20000 in
theorem ggX10_step_X10_putGate : GoodIn wsX10_step wsX10_putGate := goodIn_r _ [57, 6, 82, 83, 84, 85, 86, 87, 88, 89, 90, 91] (by decide +kernel) (by decide +kernel)
set_option maxRecDepth 20000 in
theorem gX10_step_X10_putGate : GoodIn wsX10_step (wsV RX10 41 RX10 yX10_putGate wsX10_putGate) := goodIn_app (goodIn_of _ (by decide +kernel)) ggX10_step_X10_putGate
set_option maxRecDepth 20000 in
theorem ggX10_step_X10_pinched : GoodIn wsX10_step wsX10_pinched := goodIn_r _ [69, 54, 55, 56, 4, 57, 6, 1, 2, 3, 5, 58, 59, 60, 61, 70, 71, 72, 73, 74, 75, 76, 77, 50, 51, 52, 53, 62, 63, 64, 65, 82, 83, 84, 85, 86, 87, 88, 89, 90, 91] (by decide +kernel) (by decide +kernel)
set_option maxRecDepth 20000 in
theorem gX10_step_X10_pinched : GoodIn wsX10_step (wsV RX10 128 RX10 yX10_pinched wsX10_pinched) := goodIn_app (goodIn_of _ (by decide +kernel)) ggX10_step_X10_pinched
set_option maxRecDepth 20000 in
theorem ggX10_step_X10_opened : GoodIn wsX10_step wsX10_opened := goodIn_r _ [81, 1, 2, 3, 4, 5, 6, 23, 24, 25, 26, 62, 63, 64, 65, 54, 55, 56, 57, 82, 83, 84, 85, 86, 87, 88, 89, 90, 91] (by decide +kernel) (by decide +kernel)
set_option maxRecDepth 20000 in
theorem gX10_step_X10_opened : GoodIn wsX10_step (wsV RX10 131 RX10 yX10_opened wsX10_opened) := goodIn_app (goodIn_of _ (by decide +kernel)) ggX10_step_X10_opened
set_option maxRecDepth 20000 in
theorem ggX10_step_X10_turn : GoodIn wsX10_step wsX10_turn := goodIn_r _ [65, 54, 55, 56, 4, 57, 6, 82, 83, 84, 85, 86, 87, 88, 89, 90, 91] (by decide +kernel) (by decide +kernel)
set_option maxRecDepth 20000 in
theorem gX10_step_X10_turn : GoodIn wsX10_step (wsV RX10 119 RX10 yX10_turn wsX10_turn) := goodIn_app (goodIn_of _ (by decide +kernel)) ggX10_step_X10_turn
set_option maxRecDepth 20000 in
theorem ggX10_step_X10_letThrough : GoodIn wsX10_step wsX10_letThrough := goodIn_r _ [77, 1, 2, 3, 4, 5, 6, 50, 51, 52, 53, 54, 55, 56, 57, 58, 59, 60, 61, 82, 83, 84, 85, 86, 87, 88, 89, 90, 91] (by decide +kernel) (by decide +kernel)
set_option maxRecDepth 20000 in
theorem gX10_step_X10_letThrough : GoodIn wsX10_step (wsV RX10 96 RX10 yX10_letThrough wsX10_letThrough) := goodIn_app (goodIn_of _ (by decide +kernel)) ggX10_step_X10_letThrough
theorem dX10_step_0 : decode cX10_step 0 = .ok (.aload_n 0, 1) := by decide +kernel
theorem dX10_step_1 : decode cX10_step 1 = .ok (.iload_n 1, 1) := by decide +kernel
theorem dX10_step_2 : decode cX10_step 2 = .ok (.iconst 4, 1) := by decide +kernel
theorem dX10_step_3 : decode cX10_step 3 = .ok (.invokevirtual 52, 3) := by decide +kernel
theorem dX10_step_6 : decode cX10_step 6 = .ok (.istore_n 2, 1) := by decide +kernel
theorem dX10_step_7 : decode cX10_step 7 = .ok (.iload_n 2, 1) := by decide +kernel
theorem dX10_step_8 : decode cX10_step 8 = .ok (.iconst 5, 1) := by decide +kernel
theorem dX10_step_9 : decode cX10_step 9 = .ok (.if_icmp .ne 4, 3) := by decide +kernel
theorem dX10_step_12 : decode cX10_step 12 = .ok (.return_, 1) := by decide +kernel
theorem dX10_step_13 : decode cX10_step 13 = .ok (.iload_n 2, 1) := by decide +kernel
theorem dX10_step_14 : decode cX10_step 14 = .ok (.ifCond .ne 9, 3) := by decide +kernel
theorem dX10_step_17 : decode cX10_step 17 = .ok (.aload_n 0, 1) := by decide +kernel
theorem dX10_step_18 : decode cX10_step 18 = .ok (.iload_n 1, 1) := by decide +kernel
theorem dX10_step_19 : decode cX10_step 19 = .ok (.invokevirtual 125, 3) := by decide +kernel
theorem dX10_step_22 : decode cX10_step 22 = .ok (.return_, 1) := by decide +kernel
theorem dX10_step_23 : decode cX10_step 23 = .ok (.aload_n 0, 1) := by decide +kernel
theorem dX10_step_24 : decode cX10_step 24 = .ok (.iload_n 1, 1) := by decide +kernel
theorem dX10_step_25 : decode cX10_step 25 = .ok (.iconst 5, 1) := by decide +kernel
theorem dX10_step_26 : decode cX10_step 26 = .ok (.aload_n 0, 1) := by decide +kernel
theorem dX10_step_27 : decode cX10_step 27 = .ok (.iload_n 1, 1) := by decide +kernel
theorem dX10_step_28 : decode cX10_step 28 = .ok (.iconst 5, 1) := by decide +kernel
theorem dX10_step_29 : decode cX10_step 29 = .ok (.invokevirtual 52, 3) := by decide +kernel
theorem dX10_step_32 : decode cX10_step 32 = .ok (.iconst 1, 1) := by decide +kernel
theorem dX10_step_33 : decode cX10_step 33 = .ok (.isub, 1) := by decide +kernel
theorem dX10_step_34 : decode cX10_step 34 = .ok (.invokevirtual 41, 3) := by decide +kernel
theorem dX10_step_37 : decode cX10_step 37 = .ok (.aload_n 0, 1) := by decide +kernel
theorem dX10_step_38 : decode cX10_step 38 = .ok (.iload_n 1, 1) := by decide +kernel
theorem dX10_step_39 : decode cX10_step 39 = .ok (.iconst 5, 1) := by decide +kernel
theorem dX10_step_40 : decode cX10_step 40 = .ok (.invokevirtual 52, 3) := by decide +kernel
theorem dX10_step_43 : decode cX10_step 43 = .ok (.ifCond .ne 7, 3) := by decide +kernel
theorem dX10_step_46 : decode cX10_step 46 = .ok (.iconst 1, 1) := by decide +kernel
theorem dX10_step_47 : decode cX10_step 47 = .ok (.goto 4, 3) := by decide +kernel
theorem dX10_step_50 : decode cX10_step 50 = .ok (.iconst 0, 1) := by decide +kernel
theorem dX10_step_51 : decode cX10_step 51 = .ok (.istore_n 3, 1) := by decide +kernel
theorem dX10_step_52 : decode cX10_step 52 = .ok (.iload_n 2, 1) := by decide +kernel
theorem dX10_step_53 : decode cX10_step 53 = .ok (.iconst 3, 1) := by decide +kernel
theorem dX10_step_54 : decode cX10_step 54 = .ok (.if_icmp .ne 22, 3) := by decide +kernel
theorem dX10_step_57 : decode cX10_step 57 = .ok (.aload_n 0, 1) := by decide +kernel
theorem dX10_step_58 : decode cX10_step 58 = .ok (.iload_n 1, 1) := by decide +kernel
theorem dX10_step_59 : decode cX10_step 59 = .ok (.bipush 9, 2) := by decide +kernel
theorem dX10_step_61 : decode cX10_step 61 = .ok (.invokevirtual 52, 3) := by decide +kernel
theorem dX10_step_64 : decode cX10_step 64 = .ok (.iconst 1, 1) := by decide +kernel
theorem dX10_step_65 : decode cX10_step 65 = .ok (.if_icmp .ne 11, 3) := by decide +kernel
theorem dX10_step_68 : decode cX10_step 68 = .ok (.aload_n 0, 1) := by decide +kernel
theorem dX10_step_69 : decode cX10_step 69 = .ok (.iload_n 1, 1) := by decide +kernel
theorem dX10_step_70 : decode cX10_step 70 = .ok (.invokevirtual 128, 3) := by decide +kernel
theorem dX10_step_73 : decode cX10_step 73 = .ok (.goto 65, 3) := by decide +kernel
theorem dX10_step_76 : decode cX10_step 76 = .ok (.iload_n 3, 1) := by decide +kernel
theorem dX10_step_77 : decode cX10_step 77 = .ok (.ifCond .eq 21, 3) := by decide +kernel
theorem dX10_step_80 : decode cX10_step 80 = .ok (.iload_n 2, 1) := by decide +kernel
theorem dX10_step_81 : decode cX10_step 81 = .ok (.iconst 1, 1) := by decide +kernel
theorem dX10_step_82 : decode cX10_step 82 = .ok (.if_icmp .eq 8, 3) := by decide +kernel
theorem dX10_step_85 : decode cX10_step 85 = .ok (.iload_n 2, 1) := by decide +kernel
theorem dX10_step_86 : decode cX10_step 86 = .ok (.iconst 4, 1) := by decide +kernel
theorem dX10_step_87 : decode cX10_step 87 = .ok (.if_icmp .ne 11, 3) := by decide +kernel
theorem dX10_step_90 : decode cX10_step 90 = .ok (.aload_n 0, 1) := by decide +kernel
theorem dX10_step_91 : decode cX10_step 91 = .ok (.iload_n 1, 1) := by decide +kernel
theorem dX10_step_92 : decode cX10_step 92 = .ok (.invokevirtual 131, 3) := by decide +kernel
theorem dX10_step_95 : decode cX10_step 95 = .ok (.goto 43, 3) := by decide +kernel
theorem dX10_step_98 : decode cX10_step 98 = .ok (.iload_n 3, 1) := by decide +kernel
theorem dX10_step_99 : decode cX10_step 99 = .ok (.ifCond .eq 23, 3) := by decide +kernel
theorem dX10_step_102 : decode cX10_step 102 = .ok (.iload_n 2, 1) := by decide +kernel
theorem dX10_step_103 : decode cX10_step 103 = .ok (.iconst 2, 1) := by decide +kernel
theorem dX10_step_104 : decode cX10_step 104 = .ok (.if_icmp .ne 18, 3) := by decide +kernel
theorem dX10_step_107 : decode cX10_step 107 = .ok (.aload_n 0, 1) := by decide +kernel
theorem dX10_step_108 : decode cX10_step 108 = .ok (.iload_n 1, 1) := by decide +kernel
theorem dX10_step_109 : decode cX10_step 109 = .ok (.iconst 3, 1) := by decide +kernel
theorem dX10_step_110 : decode cX10_step 110 = .ok (.aload_n 0, 1) := by decide +kernel
theorem dX10_step_111 : decode cX10_step 111 = .ok (.iload_n 1, 1) := by decide +kernel
theorem dX10_step_112 : decode cX10_step 112 = .ok (.iconst 3, 1) := by decide +kernel
theorem dX10_step_113 : decode cX10_step 113 = .ok (.invokevirtual 52, 3) := by decide +kernel
theorem dX10_step_116 : decode cX10_step 116 = .ok (.invokevirtual 119, 3) := by decide +kernel
theorem dX10_step_119 : decode cX10_step 119 = .ok (.goto 19, 3) := by decide +kernel
theorem dX10_step_122 : decode cX10_step 122 = .ok (.iload_n 3, 1) := by decide +kernel
theorem dX10_step_123 : decode cX10_step 123 = .ok (.ifCond .eq 15, 3) := by decide +kernel
theorem dX10_step_126 : decode cX10_step 126 = .ok (.aload_n 0, 1) := by decide +kernel
theorem dX10_step_127 : decode cX10_step 127 = .ok (.iload_n 1, 1) := by decide +kernel
theorem dX10_step_128 : decode cX10_step 128 = .ok (.invokevirtual 96, 3) := by decide +kernel
theorem dX10_step_131 : decode cX10_step 131 = .ok (.aload_n 0, 1) := by decide +kernel
theorem dX10_step_132 : decode cX10_step 132 = .ok (.iload_n 1, 1) := by decide +kernel
theorem dX10_step_133 : decode cX10_step 133 = .ok (.iconst 0, 1) := by decide +kernel
theorem dX10_step_134 : decode cX10_step 134 = .ok (.iconst 0, 1) := by decide +kernel
theorem dX10_step_135 : decode cX10_step 135 = .ok (.invokevirtual 119, 3) := by decide +kernel
theorem dX10_step_138 : decode cX10_step 138 = .ok (.return_, 1) := by decide +kernel
set_option maxRecDepth 20000 in
theorem ggX10_tick_X10_step : GoodIn wsX10_tick wsX10_step := goodIn_r _ [6, 7, 8, 9, 5, 10, 1, 11, 12, 13, 14, 15, 16, 17, 18, 19, 20, 21, 22, 23, 24, 25, 26, 27, 28, 29, 30, 31, 32, 33, 34, 35, 36, 37, 38, 39, 40, 41, 42, 43, 44, 45, 46, 47, 48, 49, 50, 51, 52, 53, 54, 55, 56, 57, 58, 59, 60, 61, 62, 63, 64, 65, 66, 67, 68, 69, 70, 71, 72, 73, 74, 75, 76, 77, 78, 79, 80, 81, 82, 83, 84, 85, 86, 87, 88, 89, 90, 91, 92, 93, 94, 95] (by decide +kernel) (by decide +kernel)
set_option maxRecDepth 20000 in
theorem gX10_tick_X10_step : GoodIn wsX10_tick (wsV RX10 134 RX10 yX10_step wsX10_step) := goodIn_app (goodIn_of _ (by decide +kernel)) ggX10_tick_X10_step
theorem dX10_tick_0 : decode cX10_tick 0 = .ok (.iconst 0, 1) := by decide +kernel
theorem dX10_tick_1 : decode cX10_tick 1 = .ok (.istore_n 1, 1) := by decide +kernel
theorem dX10_tick_2 : decode cX10_tick 2 = .ok (.iload_n 1, 1) := by decide +kernel
theorem dX10_tick_3 : decode cX10_tick 3 = .ok (.aload_n 0, 1) := by decide +kernel
theorem dX10_tick_4 : decode cX10_tick 4 = .ok (.getfield 7, 3) := by decide +kernel
theorem dX10_tick_7 : decode cX10_tick 7 = .ok (.iconst 1, 1) := by decide +kernel
theorem dX10_tick_8 : decode cX10_tick 8 = .ok (.iaload, 1) := by decide +kernel
theorem dX10_tick_9 : decode cX10_tick 9 = .ok (.if_icmp .ge 14, 3) := by decide +kernel
theorem dX10_tick_12 : decode cX10_tick 12 = .ok (.aload_n 0, 1) := by decide +kernel
theorem dX10_tick_13 : decode cX10_tick 13 = .ok (.iload_n 1, 1) := by decide +kernel
theorem dX10_tick_14 : decode cX10_tick 14 = .ok (.invokevirtual 134, 3) := by decide +kernel
theorem dX10_tick_17 : decode cX10_tick 17 = .ok (.iinc 1 1, 3) := by decide +kernel
theorem dX10_tick_20 : decode cX10_tick 20 = .ok (.goto (-18), 3) := by decide +kernel
theorem dX10_tick_23 : decode cX10_tick 23 = .ok (.aload_n 0, 1) := by decide +kernel
theorem dX10_tick_24 : decode cX10_tick 24 = .ok (.getfield 7, 3) := by decide +kernel
theorem dX10_tick_27 : decode cX10_tick 27 = .ok (.iconst 0, 1) := by decide +kernel
theorem dX10_tick_28 : decode cX10_tick 28 = .ok (.dup2, 1) := by decide +kernel
theorem dX10_tick_29 : decode cX10_tick 29 = .ok (.iaload, 1) := by decide +kernel
theorem dX10_tick_30 : decode cX10_tick 30 = .ok (.iconst 1, 1) := by decide +kernel
theorem dX10_tick_31 : decode cX10_tick 31 = .ok (.iadd, 1) := by decide +kernel
theorem dX10_tick_32 : decode cX10_tick 32 = .ok (.iastore, 1) := by decide +kernel
theorem dX10_tick_33 : decode cX10_tick 33 = .ok (.return_, 1) := by decide +kernel
set_option maxRecDepth 20000 in
theorem ggX10_passed_X10_gateOf : GoodIn wsX10_passed wsX10_gateOf := goodIn_r _ [6, 1, 7, 8, 9, 10, 11, 12, 13, 14, 15, 16] (by decide +kernel) (by decide +kernel)
set_option maxRecDepth 20000 in
theorem gX10_passed_X10_gateOf : GoodIn wsX10_passed (wsV RX10 52 RX10 yX10_gateOf wsX10_gateOf) := goodIn_app (goodIn_of _ (by decide +kernel)) ggX10_passed_X10_gateOf
theorem dX10_passed_0 : decode cX10_passed 0 = .ok (.iconst 0, 1) := by decide +kernel
theorem dX10_passed_1 : decode cX10_passed 1 = .ok (.istore_n 1, 1) := by decide +kernel
theorem dX10_passed_2 : decode cX10_passed 2 = .ok (.iconst 0, 1) := by decide +kernel
theorem dX10_passed_3 : decode cX10_passed 3 = .ok (.istore_n 2, 1) := by decide +kernel
theorem dX10_passed_4 : decode cX10_passed 4 = .ok (.iload_n 2, 1) := by decide +kernel
theorem dX10_passed_5 : decode cX10_passed 5 = .ok (.aload_n 0, 1) := by decide +kernel
theorem dX10_passed_6 : decode cX10_passed 6 = .ok (.getfield 7, 3) := by decide +kernel
theorem dX10_passed_9 : decode cX10_passed 9 = .ok (.iconst 1, 1) := by decide +kernel
theorem dX10_passed_10 : decode cX10_passed 10 = .ok (.iaload, 1) := by decide +kernel
theorem dX10_passed_11 : decode cX10_passed 11 = .ok (.if_icmp .ge 27, 3) := by decide +kernel
theorem dX10_passed_14 : decode cX10_passed 14 = .ok (.iload_n 1, 1) := by decide +kernel
theorem dX10_passed_15 : decode cX10_passed 15 = .ok (.aload_n 0, 1) := by decide +kernel
theorem dX10_passed_16 : decode cX10_passed 16 = .ok (.iload_n 2, 1) := by decide +kernel
theorem dX10_passed_17 : decode cX10_passed 17 = .ok (.bipush 10, 2) := by decide +kernel
theorem dX10_passed_19 : decode cX10_passed 19 = .ok (.invokevirtual 52, 3) := by decide +kernel
theorem dX10_passed_22 : decode cX10_passed 22 = .ok (.aload_n 0, 1) := by decide +kernel
theorem dX10_passed_23 : decode cX10_passed 23 = .ok (.iload_n 2, 1) := by decide +kernel
theorem dX10_passed_24 : decode cX10_passed 24 = .ok (.bipush 11, 2) := by decide +kernel
theorem dX10_passed_26 : decode cX10_passed 26 = .ok (.invokevirtual 52, 3) := by decide +kernel
theorem dX10_passed_29 : decode cX10_passed 29 = .ok (.iadd, 1) := by decide +kernel
theorem dX10_passed_30 : decode cX10_passed 30 = .ok (.iadd, 1) := by decide +kernel
theorem dX10_passed_31 : decode cX10_passed 31 = .ok (.istore_n 1, 1) := by decide +kernel
theorem dX10_passed_32 : decode cX10_passed 32 = .ok (.iinc 2 1, 3) := by decide +kernel
theorem dX10_passed_35 : decode cX10_passed 35 = .ok (.goto (-31), 3) := by decide +kernel
theorem dX10_passed_38 : decode cX10_passed 38 = .ok (.iload_n 1, 1) := by decide +kernel
theorem dX10_passed_39 : decode cX10_passed 39 = .ok (.ireturn, 1) := by decide +kernel
set_option maxRecDepth 20000 in
theorem ggX10_doPass_X10_in : GoodIn wsX10_doPass wsX10_in := goodIn_r _ [4] (by decide +kernel) (by decide +kernel)
set_option maxRecDepth 20000 in
theorem gX10_doPass_X10_in : GoodIn wsX10_doPass (va_wsS RX10 34 yX10_in wsX10_in) := goodIn_app (goodIn_of _ (by decide +kernel)) ggX10_doPass_X10_in
set_option maxRecDepth 20000 in
theorem ggX10_doPass_X10_passed : GoodIn wsX10_doPass wsX10_passed := goodIn_r _ [8, 9, 10, 11, 12, 3, 13, 94, 95, 96, 97, 98, 99, 100, 101, 102, 103] (by decide +kernel) (by decide +kernel)
set_option maxRecDepth 20000 in
theorem gX10_doPass_X10_passed : GoodIn wsX10_doPass (wsV RX10 137 RX10 yX10_passed wsX10_passed) := goodIn_app (goodIn_of _ (by decide +kernel)) ggX10_doPass_X10_passed
set_option maxRecDepth 20000 in
theorem ggX10_doPass_X10_tick : GoodIn wsX10_doPass wsX10_tick := goodIn_r _ [17, 9, 18, 19, 20, 3, 21, 10, 11, 12, 13, 22, 23, 24, 25, 26, 27, 28, 29, 30, 31, 32, 33, 34, 35, 36, 37, 38, 39, 40, 41, 42, 43, 44, 45, 46, 47, 48, 49, 50, 51, 52, 53, 1, 2, 4, 54, 55, 56, 57, 58, 59, 60, 61, 62, 63, 64, 65, 66, 67, 68, 69, 70, 71, 72, 73, 74, 75, 76, 77, 78, 79, 80, 81, 82, 83, 84, 85, 86, 87, 88, 89, 90, 91, 92, 93, 94, 95, 96, 97, 98, 99, 100, 101, 102, 103] (by decide +kernel) (by decide +kernel)
set_option maxRecDepth 20000 in
theorem gX10_doPass_X10_tick : GoodIn wsX10_doPass (wsV RX10 141 RX10 yX10_tick wsX10_tick) := goodIn_app (goodIn_of _ (by decide +kernel)) ggX10_doPass_X10_tick
theorem dX10_doPass_0 : decode cX10_doPass 0 = .ok (.iload_n 1, 1) := by decide +kernel
theorem dX10_doPass_1 : decode cX10_doPass 1 = .ok (.iconst 1, 1) := by decide +kernel
theorem dX10_doPass_2 : decode cX10_doPass 2 = .ok (.sipush 200, 3) := by decide +kernel
theorem dX10_doPass_5 : decode cX10_doPass 5 = .ok (.invokestatic 34, 3) := by decide +kernel
theorem dX10_doPass_8 : decode cX10_doPass 8 = .ok (.ifCond .ne 6, 3) := by decide +kernel
theorem dX10_doPass_11 : decode cX10_doPass 11 = .ok (.bipush (-2), 2) := by decide +kernel
theorem dX10_doPass_13 : decode cX10_doPass 13 = .ok (.ireturn, 1) := by decide +kernel
theorem dX10_doPass_14 : decode cX10_doPass 14 = .ok (.aload_n 0, 1) := by decide +kernel
theorem dX10_doPass_15 : decode cX10_doPass 15 = .ok (.invokevirtual 137, 3) := by decide +kernel
theorem dX10_doPass_18 : decode cX10_doPass 18 = .ok (.istore_n 2, 1) := by decide +kernel
theorem dX10_doPass_19 : decode cX10_doPass 19 = .ok (.iconst 0, 1) := by decide +kernel
theorem dX10_doPass_20 : decode cX10_doPass 20 = .ok (.istore_n 3, 1) := by decide +kernel
theorem dX10_doPass_21 : decode cX10_doPass 21 = .ok (.iload_n 3, 1) := by decide +kernel
theorem dX10_doPass_22 : decode cX10_doPass 22 = .ok (.iload_n 1, 1) := by decide +kernel
theorem dX10_doPass_23 : decode cX10_doPass 23 = .ok (.if_icmp .ge 13, 3) := by decide +kernel
theorem dX10_doPass_26 : decode cX10_doPass 26 = .ok (.aload_n 0, 1) := by decide +kernel
theorem dX10_doPass_27 : decode cX10_doPass 27 = .ok (.invokevirtual 141, 3) := by decide +kernel
theorem dX10_doPass_30 : decode cX10_doPass 30 = .ok (.iinc 3 1, 3) := by decide +kernel
theorem dX10_doPass_33 : decode cX10_doPass 33 = .ok (.goto (-12), 3) := by decide +kernel
theorem dX10_doPass_36 : decode cX10_doPass 36 = .ok (.aload_n 0, 1) := by decide +kernel
theorem dX10_doPass_37 : decode cX10_doPass 37 = .ok (.invokevirtual 137, 3) := by decide +kernel
theorem dX10_doPass_40 : decode cX10_doPass 40 = .ok (.iload_n 2, 1) := by decide +kernel
theorem dX10_doPass_41 : decode cX10_doPass 41 = .ok (.isub, 1) := by decide +kernel
theorem dX10_doPass_42 : decode cX10_doPass 42 = .ok (.ireturn, 1) := by decide +kernel
set_option maxRecDepth 20000 in
theorem ggX10_pass_X10_begin : GoodIn wsX10_pass wsX10_begin := goodIn_r _ [5, 6, 7, 113, 114, 115, 116, 117, 118, 119, 120, 121, 122] (by decide +kernel) (by decide +kernel)
set_option maxRecDepth 20000 in
theorem gX10_pass_X10_begin : GoodIn wsX10_pass (wsV RX10 38 RX10 yX10_begin wsX10_begin) := goodIn_app (goodIn_of _ (by decide +kernel)) ggX10_pass_X10_begin
set_option maxRecDepth 20000 in
theorem ggX10_pass_X10_doPass : GoodIn wsX10_pass wsX10_doPass := goodIn_r _ [11, 12, 13, 4, 14, 15, 16, 17, 18, 7, 19, 20, 21, 22, 23, 24, 25, 26, 27, 28, 29, 30, 31, 32, 33, 34, 35, 36, 37, 38, 39, 40, 41, 42, 43, 44, 45, 46, 47, 48, 49, 50, 51, 52, 53, 54, 55, 56, 57, 58, 59, 60, 61, 62, 63, 64, 65, 66, 67, 68, 69, 70, 71, 72, 73, 74, 75, 76, 77, 78, 79, 80, 81, 82, 83, 84, 85, 86, 87, 88, 89, 90, 91, 92, 93, 94, 95, 96, 97, 98, 99, 100, 101, 102, 113, 114, 115, 116, 117, 118, 119, 120, 121, 122] (by decide +kernel) (by decide +kernel)
set_option maxRecDepth 20000 in
theorem gX10_pass_X10_doPass : GoodIn wsX10_pass (wsV RX10 144 RX10 yX10_doPass wsX10_doPass) := goodIn_app (goodIn_of _ (by decide +kernel)) ggX10_pass_X10_doPass
set_option maxRecDepth 20000 in
theorem ggX10_pass_X10_done : GoodIn wsX10_pass wsX10_done := goodIn_r _ [106, 107, 108, 109, 4, 110, 111, 112, 6, 113, 114, 115, 116, 117, 118, 119, 120, 121, 122] (by decide +kernel) (by decide +kernel)
set_option maxRecDepth 20000 in
theorem gX10_pass_X10_done : GoodIn wsX10_pass (wsV RX10 45 RX10 yX10_done wsX10_done) := goodIn_app (goodIn_of _ (by decide +kernel)) ggX10_pass_X10_done
theorem dX10_pass_0 : decode cX10_pass 0 = .ok (.aload_n 0, 1) := by decide +kernel
theorem dX10_pass_1 : decode cX10_pass 1 = .ok (.invokevirtual 38, 3) := by decide +kernel
theorem dX10_pass_4 : decode cX10_pass 4 = .ok (.aload_n 0, 1) := by decide +kernel
theorem dX10_pass_5 : decode cX10_pass 5 = .ok (.aload_n 0, 1) := by decide +kernel
theorem dX10_pass_6 : decode cX10_pass 6 = .ok (.iload_n 1, 1) := by decide +kernel
theorem dX10_pass_7 : decode cX10_pass 7 = .ok (.invokevirtual 144, 3) := by decide +kernel
theorem dX10_pass_10 : decode cX10_pass 10 = .ok (.invokevirtual 45, 3) := by decide +kernel
theorem dX10_pass_13 : decode cX10_pass 13 = .ok (.ireturn, 1) := by decide +kernel
set_option maxRecDepth 20000 in
theorem ggX10_doPinch_X10_noGate : GoodIn wsX10_doPinch wsX10_noGate := goodIn_r _ [5, 6, 7, 8, 4, 9, 18, 19, 20, 21, 22, 23, 24, 25, 26, 27] (by decide +kernel) (by decide +kernel)
set_option maxRecDepth 20000 in
theorem gX10_doPinch_X10_noGate : GoodIn wsX10_doPinch (wsV RX10 48 RX10 yX10_noGate wsX10_noGate) := goodIn_app (goodIn_of _ (by decide +kernel)) ggX10_doPinch_X10_noGate
set_option maxRecDepth 20000 in
theorem ggX10_doPinch_X10_gateOf : GoodIn wsX10_doPinch wsX10_gateOf := goodIn_r _ [13, 6, 18, 19, 20, 21, 22, 23, 24, 25, 26, 27] (by decide +kernel) (by decide +kernel)
set_option maxRecDepth 20000 in
theorem gX10_doPinch_X10_gateOf : GoodIn wsX10_doPinch (wsV RX10 52 RX10 yX10_gateOf wsX10_gateOf) := goodIn_app (goodIn_of _ (by decide +kernel)) ggX10_doPinch_X10_gateOf
set_option maxRecDepth 20000 in
theorem ggX10_doPinch_X10_putGate : GoodIn wsX10_doPinch wsX10_putGate := goodIn_r _ [17, 6, 18, 19, 20, 21, 22, 23, 24, 25, 26, 27] (by decide +kernel) (by decide +kernel)
set_option maxRecDepth 20000 in
theorem gX10_doPinch_X10_putGate : GoodIn wsX10_doPinch (wsV RX10 41 RX10 yX10_putGate wsX10_putGate) := goodIn_app (goodIn_of _ (by decide +kernel)) ggX10_doPinch_X10_putGate
theorem dX10_doPinch_0 : decode cX10_doPinch 0 = .ok (.aload_n 0, 1) := by decide +kernel
theorem dX10_doPinch_1 : decode cX10_doPinch 1 = .ok (.iload_n 1, 1) := by decide +kernel
theorem dX10_doPinch_2 : decode cX10_doPinch 2 = .ok (.invokevirtual 48, 3) := by decide +kernel
theorem dX10_doPinch_5 : decode cX10_doPinch 5 = .ok (.ifCond .eq 5, 3) := by decide +kernel
theorem dX10_doPinch_8 : decode cX10_doPinch 8 = .ok (.iconst (-1), 1) := by decide +kernel
theorem dX10_doPinch_9 : decode cX10_doPinch 9 = .ok (.ireturn, 1) := by decide +kernel
theorem dX10_doPinch_10 : decode cX10_doPinch 10 = .ok (.aload_n 0, 1) := by decide +kernel
theorem dX10_doPinch_11 : decode cX10_doPinch 11 = .ok (.iload_n 1, 1) := by decide +kernel
theorem dX10_doPinch_12 : decode cX10_doPinch 12 = .ok (.iconst 4, 1) := by decide +kernel
theorem dX10_doPinch_13 : decode cX10_doPinch 13 = .ok (.invokevirtual 52, 3) := by decide +kernel
theorem dX10_doPinch_16 : decode cX10_doPinch 16 = .ok (.iconst 5, 1) := by decide +kernel
theorem dX10_doPinch_17 : decode cX10_doPinch 17 = .ok (.if_icmp .ne 6, 3) := by decide +kernel
theorem dX10_doPinch_20 : decode cX10_doPinch 20 = .ok (.bipush (-4), 2) := by decide +kernel
theorem dX10_doPinch_22 : decode cX10_doPinch 22 = .ok (.ireturn, 1) := by decide +kernel
theorem dX10_doPinch_23 : decode cX10_doPinch 23 = .ok (.aload_n 0, 1) := by decide +kernel
theorem dX10_doPinch_24 : decode cX10_doPinch 24 = .ok (.iload_n 1, 1) := by decide +kernel
theorem dX10_doPinch_25 : decode cX10_doPinch 25 = .ok (.bipush 9, 2) := by decide +kernel
theorem dX10_doPinch_27 : decode cX10_doPinch 27 = .ok (.invokevirtual 52, 3) := by decide +kernel
theorem dX10_doPinch_30 : decode cX10_doPinch 30 = .ok (.iconst 1, 1) := by decide +kernel
theorem dX10_doPinch_31 : decode cX10_doPinch 31 = .ok (.if_icmp .ne 6, 3) := by decide +kernel
theorem dX10_doPinch_34 : decode cX10_doPinch 34 = .ok (.bipush (-5), 2) := by decide +kernel
theorem dX10_doPinch_36 : decode cX10_doPinch 36 = .ok (.ireturn, 1) := by decide +kernel
theorem dX10_doPinch_37 : decode cX10_doPinch 37 = .ok (.aload_n 0, 1) := by decide +kernel
theorem dX10_doPinch_38 : decode cX10_doPinch 38 = .ok (.iload_n 1, 1) := by decide +kernel
theorem dX10_doPinch_39 : decode cX10_doPinch 39 = .ok (.bipush 9, 2) := by decide +kernel
theorem dX10_doPinch_41 : decode cX10_doPinch 41 = .ok (.iconst 1, 1) := by decide +kernel
theorem dX10_doPinch_42 : decode cX10_doPinch 42 = .ok (.invokevirtual 41, 3) := by decide +kernel
theorem dX10_doPinch_45 : decode cX10_doPinch 45 = .ok (.aload_n 0, 1) := by decide +kernel
theorem dX10_doPinch_46 : decode cX10_doPinch 46 = .ok (.iload_n 1, 1) := by decide +kernel
theorem dX10_doPinch_47 : decode cX10_doPinch 47 = .ok (.iconst 4, 1) := by decide +kernel
theorem dX10_doPinch_48 : decode cX10_doPinch 48 = .ok (.invokevirtual 52, 3) := by decide +kernel
theorem dX10_doPinch_51 : decode cX10_doPinch 51 = .ok (.iconst 3, 1) := by decide +kernel
theorem dX10_doPinch_52 : decode cX10_doPinch 52 = .ok (.if_icmp .ne 7, 3) := by decide +kernel
theorem dX10_doPinch_55 : decode cX10_doPinch 55 = .ok (.iconst 1, 1) := by decide +kernel
theorem dX10_doPinch_56 : decode cX10_doPinch 56 = .ok (.goto 4, 3) := by decide +kernel
theorem dX10_doPinch_59 : decode cX10_doPinch 59 = .ok (.iconst 0, 1) := by decide +kernel
theorem dX10_doPinch_60 : decode cX10_doPinch 60 = .ok (.ireturn, 1) := by decide +kernel
set_option maxRecDepth 20000 in
theorem ggX10_pinch_X10_begin : GoodIn wsX10_pinch wsX10_begin := goodIn_r _ [5, 6, 7, 37, 38, 39, 40, 41, 42, 43, 44, 45, 46] (by decide +kernel) (by decide +kernel)
set_option maxRecDepth 20000 in
theorem gX10_pinch_X10_begin : GoodIn wsX10_pinch (wsV RX10 38 RX10 yX10_begin wsX10_begin) := goodIn_app (goodIn_of _ (by decide +kernel)) ggX10_pinch_X10_begin
set_option maxRecDepth 20000 in
theorem ggX10_pinch_X10_doPinch : GoodIn wsX10_pinch wsX10_doPinch := goodIn_r _ [11, 12, 13, 14, 4, 15, 7, 16, 17, 18, 19, 20, 21, 22, 23, 24, 25, 26, 37, 38, 39, 40, 41, 42, 43, 44, 45, 46] (by decide +kernel) (by decide +kernel)
set_option maxRecDepth 20000 in
theorem gX10_pinch_X10_doPinch : GoodIn wsX10_pinch (wsV RX10 147 RX10 yX10_doPinch wsX10_doPinch) := goodIn_app (goodIn_of _ (by decide +kernel)) ggX10_pinch_X10_doPinch
set_option maxRecDepth 20000 in
theorem ggX10_pinch_X10_done : GoodIn wsX10_pinch wsX10_done := goodIn_r _ [30, 31, 32, 33, 4, 34, 35, 36, 6, 37, 38, 39, 40, 41, 42, 43, 44, 45, 46] (by decide +kernel) (by decide +kernel)
set_option maxRecDepth 20000 in
theorem gX10_pinch_X10_done : GoodIn wsX10_pinch (wsV RX10 45 RX10 yX10_done wsX10_done) := goodIn_app (goodIn_of _ (by decide +kernel)) ggX10_pinch_X10_done
theorem dX10_pinch_0 : decode cX10_pinch 0 = .ok (.aload_n 0, 1) := by decide +kernel
theorem dX10_pinch_1 : decode cX10_pinch 1 = .ok (.invokevirtual 38, 3) := by decide +kernel
theorem dX10_pinch_4 : decode cX10_pinch 4 = .ok (.aload_n 0, 1) := by decide +kernel
theorem dX10_pinch_5 : decode cX10_pinch 5 = .ok (.aload_n 0, 1) := by decide +kernel
theorem dX10_pinch_6 : decode cX10_pinch 6 = .ok (.iload_n 1, 1) := by decide +kernel
theorem dX10_pinch_7 : decode cX10_pinch 7 = .ok (.invokevirtual 147, 3) := by decide +kernel
theorem dX10_pinch_10 : decode cX10_pinch 10 = .ok (.invokevirtual 45, 3) := by decide +kernel
theorem dX10_pinch_13 : decode cX10_pinch 13 = .ok (.ireturn, 1) := by decide +kernel
set_option maxRecDepth 20000 in
theorem ggX10_fail_X10_noGate : GoodIn wsX10_fail wsX10_noGate := goodIn_r _ [5, 6, 7, 8, 4, 9, 45, 46, 47, 48, 49, 50, 51, 52, 53, 54] (by decide +kernel) (by decide +kernel)
set_option maxRecDepth 20000 in
theorem gX10_fail_X10_noGate : GoodIn wsX10_fail (wsV RX10 48 RX10 yX10_noGate wsX10_noGate) := goodIn_app (goodIn_of _ (by decide +kernel)) ggX10_fail_X10_noGate
set_option maxRecDepth 20000 in
theorem ggX10_fail_X10_gateOf : GoodIn wsX10_fail wsX10_gateOf := goodIn_r _ [13, 6, 45, 46, 47, 48, 49, 50, 51, 52, 53, 54] (by decide +kernel) (by decide +kernel)
set_option maxRecDepth 20000 in
theorem gX10_fail_X10_gateOf : GoodIn wsX10_fail (wsV RX10 52 RX10 yX10_gateOf wsX10_gateOf) := goodIn_app (goodIn_of _ (by decide +kernel)) ggX10_fail_X10_gateOf
set_option maxRecDepth 20000 in
theorem ggX10_fail_X10_begin : GoodIn wsX10_fail wsX10_begin := goodIn_r _ [17, 18, 6, 45, 46, 47, 48, 49, 50, 51, 52, 53, 54] (by decide +kernel) (by decide +kernel)
set_option maxRecDepth 20000 in
theorem gX10_fail_X10_begin : GoodIn wsX10_fail (wsV RX10 38 RX10 yX10_begin wsX10_begin) := goodIn_app (goodIn_of _ (by decide +kernel)) ggX10_fail_X10_begin
set_option maxRecDepth 20000 in
theorem ggX10_fail_X10_goOut : GoodIn wsX10_fail wsX10_goOut := goodIn_r _ [22, 23, 24, 25, 4, 26, 6, 27, 28, 29, 30, 10, 11, 12, 13, 31, 32, 33, 34, 35, 36, 37, 38, 45, 46, 47, 48, 49, 50, 51, 52, 53, 54] (by decide +kernel) (by decide +kernel)
set_option maxRecDepth 20000 in
theorem gX10_fail_X10_goOut : GoodIn wsX10_fail (wsV RX10 122 RX10 yX10_goOut wsX10_goOut) := goodIn_app (goodIn_of _ (by decide +kernel)) ggX10_fail_X10_goOut
set_option maxRecDepth 20000 in
theorem ggX10_fail_X10_recorded : GoodIn wsX10_fail wsX10_recorded := goodIn_r _ [42, 43, 44, 18, 45, 46, 47, 48, 49, 50, 51, 52, 53, 54] (by decide +kernel) (by decide +kernel)
set_option maxRecDepth 20000 in
theorem gX10_fail_X10_recorded : GoodIn wsX10_fail (wsV RX10 30 RX10 yX10_recorded wsX10_recorded) := goodIn_app (goodIn_of _ (by decide +kernel)) ggX10_fail_X10_recorded
theorem dX10_fail_0 : decode cX10_fail 0 = .ok (.aload_n 0, 1) := by decide +kernel
theorem dX10_fail_1 : decode cX10_fail 1 = .ok (.iload_n 1, 1) := by decide +kernel
theorem dX10_fail_2 : decode cX10_fail 2 = .ok (.invokevirtual 48, 3) := by decide +kernel
theorem dX10_fail_5 : decode cX10_fail 5 = .ok (.ifCond .eq 5, 3) := by decide +kernel
theorem dX10_fail_8 : decode cX10_fail 8 = .ok (.iconst (-1), 1) := by decide +kernel
theorem dX10_fail_9 : decode cX10_fail 9 = .ok (.ireturn, 1) := by decide +kernel
theorem dX10_fail_10 : decode cX10_fail 10 = .ok (.aload_n 0, 1) := by decide +kernel
theorem dX10_fail_11 : decode cX10_fail 11 = .ok (.iload_n 1, 1) := by decide +kernel
theorem dX10_fail_12 : decode cX10_fail 12 = .ok (.iconst 4, 1) := by decide +kernel
theorem dX10_fail_13 : decode cX10_fail 13 = .ok (.invokevirtual 52, 3) := by decide +kernel
theorem dX10_fail_16 : decode cX10_fail 16 = .ok (.iconst 5, 1) := by decide +kernel
theorem dX10_fail_17 : decode cX10_fail 17 = .ok (.if_icmp .ne 6, 3) := by decide +kernel
theorem dX10_fail_20 : decode cX10_fail 20 = .ok (.bipush (-4), 2) := by decide +kernel
theorem dX10_fail_22 : decode cX10_fail 22 = .ok (.ireturn, 1) := by decide +kernel
theorem dX10_fail_23 : decode cX10_fail 23 = .ok (.aload_n 0, 1) := by decide +kernel
theorem dX10_fail_24 : decode cX10_fail 24 = .ok (.invokevirtual 38, 3) := by decide +kernel
theorem dX10_fail_27 : decode cX10_fail 27 = .ok (.aload_n 0, 1) := by decide +kernel
theorem dX10_fail_28 : decode cX10_fail 28 = .ok (.iload_n 1, 1) := by decide +kernel
theorem dX10_fail_29 : decode cX10_fail 29 = .ok (.bipush 6, 2) := by decide +kernel
theorem dX10_fail_31 : decode cX10_fail 31 = .ok (.invokevirtual 52, 3) := by decide +kernel
theorem dX10_fail_34 : decode cX10_fail 34 = .ok (.istore_n 2, 1) := by decide +kernel
theorem dX10_fail_35 : decode cX10_fail 35 = .ok (.aload_n 0, 1) := by decide +kernel
theorem dX10_fail_36 : decode cX10_fail 36 = .ok (.iload_n 1, 1) := by decide +kernel
theorem dX10_fail_37 : decode cX10_fail 37 = .ok (.invokevirtual 122, 3) := by decide +kernel
theorem dX10_fail_40 : decode cX10_fail 40 = .ok (.aload_n 0, 1) := by decide +kernel
theorem dX10_fail_41 : decode cX10_fail 41 = .ok (.iload_n 2, 1) := by decide +kernel
theorem dX10_fail_42 : decode cX10_fail 42 = .ok (.invokevirtual 30, 3) := by decide +kernel
theorem dX10_fail_45 : decode cX10_fail 45 = .ok (.ireturn, 1) := by decide +kernel
set_option maxRecDepth 20000 in
theorem ggX10_repair_X10_noGate : GoodIn wsX10_repair wsX10_noGate := goodIn_r _ [5, 6, 7, 8, 4, 9, 53, 54, 55, 56, 57, 58, 59, 60, 61, 62] (by decide +kernel) (by decide +kernel)
set_option maxRecDepth 20000 in
theorem gX10_repair_X10_noGate : GoodIn wsX10_repair (wsV RX10 48 RX10 yX10_noGate wsX10_noGate) := goodIn_app (goodIn_of _ (by decide +kernel)) ggX10_repair_X10_noGate
set_option maxRecDepth 20000 in
theorem ggX10_repair_X10_gateOf : GoodIn wsX10_repair wsX10_gateOf := goodIn_r _ [13, 6, 53, 54, 55, 56, 57, 58, 59, 60, 61, 62] (by decide +kernel) (by decide +kernel)
set_option maxRecDepth 20000 in
theorem gX10_repair_X10_gateOf : GoodIn wsX10_repair (wsV RX10 52 RX10 yX10_gateOf wsX10_gateOf) := goodIn_app (goodIn_of _ (by decide +kernel)) ggX10_repair_X10_gateOf
set_option maxRecDepth 20000 in
theorem ggX10_repair_X10_begin : GoodIn wsX10_repair wsX10_begin := goodIn_r _ [17, 18, 6, 53, 54, 55, 56, 57, 58, 59, 60, 61, 62] (by decide +kernel) (by decide +kernel)
set_option maxRecDepth 20000 in
theorem gX10_repair_X10_begin : GoodIn wsX10_repair (wsV RX10 38 RX10 yX10_begin wsX10_begin) := goodIn_app (goodIn_of _ (by decide +kernel)) ggX10_repair_X10_begin
set_option maxRecDepth 20000 in
theorem ggX10_repair_X10_turn : GoodIn wsX10_repair wsX10_turn := goodIn_r _ [22, 23, 24, 25, 4, 26, 6, 53, 54, 55, 56, 57, 58, 59, 60, 61, 62] (by decide +kernel) (by decide +kernel)
set_option maxRecDepth 20000 in
theorem gX10_repair_X10_turn : GoodIn wsX10_repair (wsV RX10 119 RX10 yX10_turn wsX10_turn) := goodIn_app (goodIn_of _ (by decide +kernel)) ggX10_repair_X10_turn
set_option maxRecDepth 20000 in
theorem ggX10_repair_X10_putGate : GoodIn wsX10_repair wsX10_putGate := goodIn_r _ [26, 6, 53, 54, 55, 56, 57, 58, 59, 60, 61, 62] (by decide +kernel) (by decide +kernel)
set_option maxRecDepth 20000 in
theorem gX10_repair_X10_putGate : GoodIn wsX10_repair (wsV RX10 41 RX10 yX10_putGate wsX10_putGate) := goodIn_app (goodIn_of _ (by decide +kernel)) ggX10_repair_X10_putGate
set_option maxRecDepth 20000 in
theorem ggX10_repair_X10_tell : GoodIn wsX10_repair wsX10_tell := goodIn_r _ [30, 6, 53, 54, 55, 56, 57, 58, 59, 60, 61, 62] (by decide +kernel) (by decide +kernel)
set_option maxRecDepth 20000 in
theorem gX10_repair_X10_tell : GoodIn wsX10_repair (wsV RX10 93 RX10 yX10_tell wsX10_tell) := goodIn_app (goodIn_of _ (by decide +kernel)) ggX10_repair_X10_tell
set_option maxRecDepth 20000 in
theorem ggX10_repair_X10_queueLength : GoodIn wsX10_repair wsX10_queueLength := goodIn_r _ [34, 6, 35, 36, 37, 4, 38, 39, 40, 41, 42, 53, 54, 55, 56, 57, 58, 59, 60, 61, 62] (by decide +kernel) (by decide +kernel)
set_option maxRecDepth 20000 in
theorem gX10_repair_X10_queueLength : GoodIn wsX10_repair (wsV RX10 83 RX10 yX10_queueLength wsX10_queueLength) := goodIn_app (goodIn_of _ (by decide +kernel)) ggX10_repair_X10_queueLength
set_option maxRecDepth 20000 in
theorem ggX10_repair_X10_done : GoodIn wsX10_repair wsX10_done := goodIn_r _ [46, 47, 48, 49, 4, 50, 51, 52, 18, 53, 54, 55, 56, 57, 58, 59, 60, 61, 62] (by decide +kernel) (by decide +kernel)
set_option maxRecDepth 20000 in
theorem gX10_repair_X10_done : GoodIn wsX10_repair (wsV RX10 45 RX10 yX10_done wsX10_done) := goodIn_app (goodIn_of _ (by decide +kernel)) ggX10_repair_X10_done
theorem dX10_repair_0 : decode cX10_repair 0 = .ok (.aload_n 0, 1) := by decide +kernel
theorem dX10_repair_1 : decode cX10_repair 1 = .ok (.iload_n 1, 1) := by decide +kernel
theorem dX10_repair_2 : decode cX10_repair 2 = .ok (.invokevirtual 48, 3) := by decide +kernel
theorem dX10_repair_5 : decode cX10_repair 5 = .ok (.ifCond .eq 5, 3) := by decide +kernel
theorem dX10_repair_8 : decode cX10_repair 8 = .ok (.iconst (-1), 1) := by decide +kernel
theorem dX10_repair_9 : decode cX10_repair 9 = .ok (.ireturn, 1) := by decide +kernel
theorem dX10_repair_10 : decode cX10_repair 10 = .ok (.aload_n 0, 1) := by decide +kernel
theorem dX10_repair_11 : decode cX10_repair 11 = .ok (.iload_n 1, 1) := by decide +kernel
theorem dX10_repair_12 : decode cX10_repair 12 = .ok (.iconst 4, 1) := by decide +kernel
theorem dX10_repair_13 : decode cX10_repair 13 = .ok (.invokevirtual 52, 3) := by decide +kernel
theorem dX10_repair_16 : decode cX10_repair 16 = .ok (.iconst 5, 1) := by decide +kernel
theorem dX10_repair_17 : decode cX10_repair 17 = .ok (.if_icmp .eq 6, 3) := by decide +kernel
theorem dX10_repair_20 : decode cX10_repair 20 = .ok (.bipush (-4), 2) := by decide +kernel
theorem dX10_repair_22 : decode cX10_repair 22 = .ok (.ireturn, 1) := by decide +kernel
theorem dX10_repair_23 : decode cX10_repair 23 = .ok (.aload_n 0, 1) := by decide +kernel
theorem dX10_repair_24 : decode cX10_repair 24 = .ok (.invokevirtual 38, 3) := by decide +kernel
theorem dX10_repair_27 : decode cX10_repair 27 = .ok (.aload_n 0, 1) := by decide +kernel
theorem dX10_repair_28 : decode cX10_repair 28 = .ok (.iload_n 1, 1) := by decide +kernel
theorem dX10_repair_29 : decode cX10_repair 29 = .ok (.iconst 0, 1) := by decide +kernel
theorem dX10_repair_30 : decode cX10_repair 30 = .ok (.iconst 0, 1) := by decide +kernel
theorem dX10_repair_31 : decode cX10_repair 31 = .ok (.invokevirtual 119, 3) := by decide +kernel
theorem dX10_repair_34 : decode cX10_repair 34 = .ok (.aload_n 0, 1) := by decide +kernel
theorem dX10_repair_35 : decode cX10_repair 35 = .ok (.iload_n 1, 1) := by decide +kernel
theorem dX10_repair_36 : decode cX10_repair 36 = .ok (.bipush 9, 2) := by decide +kernel
theorem dX10_repair_38 : decode cX10_repair 38 = .ok (.iconst 0, 1) := by decide +kernel
theorem dX10_repair_39 : decode cX10_repair 39 = .ok (.invokevirtual 41, 3) := by decide +kernel
theorem dX10_repair_42 : decode cX10_repair 42 = .ok (.aload_n 0, 1) := by decide +kernel
theorem dX10_repair_43 : decode cX10_repair 43 = .ok (.iload_n 1, 1) := by decide +kernel
theorem dX10_repair_44 : decode cX10_repair 44 = .ok (.bipush (-5), 2) := by decide +kernel
theorem dX10_repair_46 : decode cX10_repair 46 = .ok (.bipush 6, 2) := by decide +kernel
theorem dX10_repair_48 : decode cX10_repair 48 = .ok (.invokevirtual 93, 3) := by decide +kernel
theorem dX10_repair_51 : decode cX10_repair 51 = .ok (.aload_n 0, 1) := by decide +kernel
theorem dX10_repair_52 : decode cX10_repair 52 = .ok (.aload_n 0, 1) := by decide +kernel
theorem dX10_repair_53 : decode cX10_repair 53 = .ok (.iload_n 1, 1) := by decide +kernel
theorem dX10_repair_54 : decode cX10_repair 54 = .ok (.iconst 0, 1) := by decide +kernel
theorem dX10_repair_55 : decode cX10_repair 55 = .ok (.invokevirtual 83, 3) := by decide +kernel
theorem dX10_repair_58 : decode cX10_repair 58 = .ok (.aload_n 0, 1) := by decide +kernel
theorem dX10_repair_59 : decode cX10_repair 59 = .ok (.iload_n 1, 1) := by decide +kernel
theorem dX10_repair_60 : decode cX10_repair 60 = .ok (.iconst 1, 1) := by decide +kernel
theorem dX10_repair_61 : decode cX10_repair 61 = .ok (.invokevirtual 83, 3) := by decide +kernel
theorem dX10_repair_64 : decode cX10_repair 64 = .ok (.iadd, 1) := by decide +kernel
theorem dX10_repair_65 : decode cX10_repair 65 = .ok (.invokevirtual 45, 3) := by decide +kernel
theorem dX10_repair_68 : decode cX10_repair 68 = .ok (.ireturn, 1) := by decide +kernel
theorem dX10_type_0 : decode cX10_type 0 = .ok (.aload_n 0, 1) := by decide +kernel
theorem dX10_type_1 : decode cX10_type 1 = .ok (.getfield 150, 3) := by decide +kernel
theorem dX10_type_4 : decode cX10_type 4 = .ok (.bipush 50, 2) := by decide +kernel
theorem dX10_type_6 : decode cX10_type 6 = .ok (.if_icmp .ne 6, 3) := by decide +kernel
theorem dX10_type_9 : decode cX10_type 9 = .ok (.bipush (-3), 2) := by decide +kernel
theorem dX10_type_11 : decode cX10_type 11 = .ok (.ireturn, 1) := by decide +kernel
theorem dX10_type_12 : decode cX10_type 12 = .ok (.aload_n 0, 1) := by decide +kernel
theorem dX10_type_13 : decode cX10_type 13 = .ok (.getfield 19, 3) := by decide +kernel
theorem dX10_type_16 : decode cX10_type 16 = .ok (.aload_n 0, 1) := by decide +kernel
theorem dX10_type_17 : decode cX10_type 17 = .ok (.getfield 150, 3) := by decide +kernel
theorem dX10_type_20 : decode cX10_type 20 = .ok (.iload_n 1, 1) := by decide +kernel
theorem dX10_type_21 : decode cX10_type 21 = .ok (.castore, 1) := by decide +kernel
theorem dX10_type_22 : decode cX10_type 22 = .ok (.aload_n 0, 1) := by decide +kernel
theorem dX10_type_23 : decode cX10_type 23 = .ok (.dup, 1) := by decide +kernel
theorem dX10_type_24 : decode cX10_type 24 = .ok (.getfield 150, 3) := by decide +kernel
theorem dX10_type_27 : decode cX10_type 27 = .ok (.iconst 1, 1) := by decide +kernel
theorem dX10_type_28 : decode cX10_type 28 = .ok (.iadd, 1) := by decide +kernel
theorem dX10_type_29 : decode cX10_type 29 = .ok (.putfield 150, 3) := by decide +kernel
theorem dX10_type_32 : decode cX10_type 32 = .ok (.aload_n 0, 1) := by decide +kernel
theorem dX10_type_33 : decode cX10_type 33 = .ok (.getfield 150, 3) := by decide +kernel
theorem dX10_type_36 : decode cX10_type 36 = .ok (.ireturn, 1) := by decide +kernel
theorem dX10_clearText_0 : decode cX10_clearText 0 = .ok (.aload_n 0, 1) := by decide +kernel
theorem dX10_clearText_1 : decode cX10_clearText 1 = .ok (.getfield 150, 3) := by decide +kernel
theorem dX10_clearText_4 : decode cX10_clearText 4 = .ok (.istore_n 1, 1) := by decide +kernel
theorem dX10_clearText_5 : decode cX10_clearText 5 = .ok (.aload_n 0, 1) := by decide +kernel
theorem dX10_clearText_6 : decode cX10_clearText 6 = .ok (.iconst 0, 1) := by decide +kernel
theorem dX10_clearText_7 : decode cX10_clearText 7 = .ok (.putfield 150, 3) := by decide +kernel
theorem dX10_clearText_10 : decode cX10_clearText 10 = .ok (.iload_n 1, 1) := by decide +kernel
theorem dX10_clearText_11 : decode cX10_clearText 11 = .ok (.ireturn, 1) := by decide +kernel
theorem dX10_isAt_0 : decode cX10_isAt 0 = .ok (.aload_n 0, 1) := by decide +kernel
theorem dX10_isAt_1 : decode cX10_isAt 1 = .ok (.getfield 153, 3) := by decide +kernel
theorem dX10_isAt_4 : decode cX10_isAt 4 = .ok (.aload_n 0, 1) := by decide +kernel
theorem dX10_isAt_5 : decode cX10_isAt 5 = .ok (.getfield 150, 3) := by decide +kernel
theorem dX10_isAt_8 : decode cX10_isAt 8 = .ok (.if_icmp .ge 33, 3) := by decide +kernel
theorem dX10_isAt_11 : decode cX10_isAt 11 = .ok (.aload_n 0, 1) := by decide +kernel
theorem dX10_isAt_12 : decode cX10_isAt 12 = .ok (.getfield 19, 3) := by decide +kernel
theorem dX10_isAt_15 : decode cX10_isAt 15 = .ok (.aload_n 0, 1) := by decide +kernel
theorem dX10_isAt_16 : decode cX10_isAt 16 = .ok (.getfield 153, 3) := by decide +kernel
theorem dX10_isAt_19 : decode cX10_isAt 19 = .ok (.caload, 1) := by decide +kernel
theorem dX10_isAt_20 : decode cX10_isAt 20 = .ok (.iload_n 1, 1) := by decide +kernel
theorem dX10_isAt_21 : decode cX10_isAt 21 = .ok (.if_icmp .lt 20, 3) := by decide +kernel
theorem dX10_isAt_24 : decode cX10_isAt 24 = .ok (.aload_n 0, 1) := by decide +kernel
theorem dX10_isAt_25 : decode cX10_isAt 25 = .ok (.getfield 19, 3) := by decide +kernel
theorem dX10_isAt_28 : decode cX10_isAt 28 = .ok (.aload_n 0, 1) := by decide +kernel
theorem dX10_isAt_29 : decode cX10_isAt 29 = .ok (.getfield 153, 3) := by decide +kernel
theorem dX10_isAt_32 : decode cX10_isAt 32 = .ok (.caload, 1) := by decide +kernel
theorem dX10_isAt_33 : decode cX10_isAt 33 = .ok (.iload_n 2, 1) := by decide +kernel
theorem dX10_isAt_34 : decode cX10_isAt 34 = .ok (.if_icmp .gt 7, 3) := by decide +kernel
theorem dX10_isAt_37 : decode cX10_isAt 37 = .ok (.iconst 1, 1) := by decide +kernel
theorem dX10_isAt_38 : decode cX10_isAt 38 = .ok (.goto 4, 3) := by decide +kernel
theorem dX10_isAt_41 : decode cX10_isAt 41 = .ok (.iconst 0, 1) := by decide +kernel
theorem dX10_isAt_42 : decode cX10_isAt 42 = .ok (.ireturn, 1) := by decide +kernel
set_option maxRecDepth 20000 in
theorem ggX10_skips_X10_isAt : GoodIn wsX10_skips wsX10_isAt := goodIn_r _ [7, 2, 8, 9, 10, 11, 12, 13, 14, 15, 16, 17, 18, 19] (by decide +kernel) (by decide +kernel)
set_option maxRecDepth 20000 in
theorem gX10_skips_X10_isAt : GoodIn wsX10_skips (wsV RX10 160 RX10 yX10_isAt wsX10_isAt) := goodIn_app (goodIn_of _ (by decide +kernel)) ggX10_skips_X10_isAt
theorem dX10_skips_0 : decode cX10_skips 0 = .ok (.aload_n 0, 1) := by decide +kernel
theorem dX10_skips_1 : decode cX10_skips 1 = .ok (.getfield 156, 3) := by decide +kernel
theorem dX10_skips_4 : decode cX10_skips 4 = .ok (.ifCond .eq 16, 3) := by decide +kernel
theorem dX10_skips_7 : decode cX10_skips 7 = .ok (.aload_n 0, 1) := by decide +kernel
theorem dX10_skips_8 : decode cX10_skips 8 = .ok (.iload_n 1, 1) := by decide +kernel
theorem dX10_skips_9 : decode cX10_skips 9 = .ok (.iload_n 1, 1) := by decide +kernel
theorem dX10_skips_10 : decode cX10_skips 10 = .ok (.invokevirtual 160, 3) := by decide +kernel
theorem dX10_skips_13 : decode cX10_skips 13 = .ok (.ifCond .eq 7, 3) := by decide +kernel
theorem dX10_skips_16 : decode cX10_skips 16 = .ok (.iconst 1, 1) := by decide +kernel
theorem dX10_skips_17 : decode cX10_skips 17 = .ok (.goto 4, 3) := by decide +kernel
theorem dX10_skips_20 : decode cX10_skips 20 = .ok (.iconst 0, 1) := by decide +kernel
theorem dX10_skips_21 : decode cX10_skips 21 = .ok (.istore_n 2, 1) := by decide +kernel
theorem dX10_skips_22 : decode cX10_skips 22 = .ok (.aload_n 0, 1) := by decide +kernel
theorem dX10_skips_23 : decode cX10_skips 23 = .ok (.dup, 1) := by decide +kernel
theorem dX10_skips_24 : decode cX10_skips 24 = .ok (.getfield 153, 3) := by decide +kernel
theorem dX10_skips_27 : decode cX10_skips 27 = .ok (.iload_n 2, 1) := by decide +kernel
theorem dX10_skips_28 : decode cX10_skips 28 = .ok (.ifCond .eq 7, 3) := by decide +kernel
theorem dX10_skips_31 : decode cX10_skips 31 = .ok (.iconst 1, 1) := by decide +kernel
theorem dX10_skips_32 : decode cX10_skips 32 = .ok (.goto 4, 3) := by decide +kernel
theorem dX10_skips_35 : decode cX10_skips 35 = .ok (.iconst 0, 1) := by decide +kernel
theorem dX10_skips_36 : decode cX10_skips 36 = .ok (.iadd, 1) := by decide +kernel
theorem dX10_skips_37 : decode cX10_skips 37 = .ok (.putfield 153, 3) := by decide +kernel
theorem dX10_skips_40 : decode cX10_skips 40 = .ok (.iload_n 2, 1) := by decide +kernel
theorem dX10_skips_41 : decode cX10_skips 41 = .ok (.ireturn, 1) := by decide +kernel
set_option maxRecDepth 20000 in
theorem ggX10_digit_X10_isAt : GoodIn wsX10_digit wsX10_isAt := goodIn_r _ [8, 2, 9, 3, 10, 11, 12, 13, 14, 15, 16, 17, 18, 19] (by decide +kernel) (by decide +kernel)
set_option maxRecDepth 20000 in
theorem gX10_digit_X10_isAt : GoodIn wsX10_digit (wsV RX10 160 RX10 yX10_isAt wsX10_isAt) := goodIn_app (goodIn_of _ (by decide +kernel)) ggX10_digit_X10_isAt
theorem dX10_digit_0 : decode cX10_digit 0 = .ok (.aload_n 0, 1) := by decide +kernel
theorem dX10_digit_1 : decode cX10_digit 1 = .ok (.aload_n 0, 1) := by decide +kernel
theorem dX10_digit_2 : decode cX10_digit 2 = .ok (.getfield 156, 3) := by decide +kernel
theorem dX10_digit_5 : decode cX10_digit 5 = .ok (.ifCond .eq 24, 3) := by decide +kernel
theorem dX10_digit_8 : decode cX10_digit 8 = .ok (.aload_n 0, 1) := by decide +kernel
theorem dX10_digit_9 : decode cX10_digit 9 = .ok (.bipush 48, 2) := by decide +kernel
theorem dX10_digit_11 : decode cX10_digit 11 = .ok (.iload_n 1, 1) := by decide +kernel
theorem dX10_digit_12 : decode cX10_digit 12 = .ok (.iadd, 1) := by decide +kernel
theorem dX10_digit_13 : decode cX10_digit 13 = .ok (.i2c, 1) := by decide +kernel
theorem dX10_digit_14 : decode cX10_digit 14 = .ok (.bipush 48, 2) := by decide +kernel
theorem dX10_digit_16 : decode cX10_digit 16 = .ok (.iload_n 2, 1) := by decide +kernel
theorem dX10_digit_17 : decode cX10_digit 17 = .ok (.iadd, 1) := by decide +kernel
theorem dX10_digit_18 : decode cX10_digit 18 = .ok (.i2c, 1) := by decide +kernel
theorem dX10_digit_19 : decode cX10_digit 19 = .ok (.invokevirtual 160, 3) := by decide +kernel
theorem dX10_digit_22 : decode cX10_digit 22 = .ok (.ifCond .eq 7, 3) := by decide +kernel
theorem dX10_digit_25 : decode cX10_digit 25 = .ok (.iconst 1, 1) := by decide +kernel
theorem dX10_digit_26 : decode cX10_digit 26 = .ok (.goto 4, 3) := by decide +kernel
theorem dX10_digit_29 : decode cX10_digit 29 = .ok (.iconst 0, 1) := by decide +kernel
theorem dX10_digit_30 : decode cX10_digit 30 = .ok (.putfield 156, 3) := by decide +kernel
theorem dX10_digit_33 : decode cX10_digit 33 = .ok (.aload_n 0, 1) := by decide +kernel
theorem dX10_digit_34 : decode cX10_digit 34 = .ok (.getfield 156, 3) := by decide +kernel
theorem dX10_digit_37 : decode cX10_digit 37 = .ok (.ifCond .eq 7, 3) := by decide +kernel
theorem dX10_digit_40 : decode cX10_digit 40 = .ok (.iload_n 2, 1) := by decide +kernel
theorem dX10_digit_41 : decode cX10_digit 41 = .ok (.ifCond .ge 10, 3) := by decide +kernel
theorem dX10_digit_44 : decode cX10_digit 44 = .ok (.aload_n 0, 1) := by decide +kernel
theorem dX10_digit_45 : decode cX10_digit 45 = .ok (.iconst 0, 1) := by decide +kernel
theorem dX10_digit_46 : decode cX10_digit 46 = .ok (.putfield 156, 3) := by decide +kernel
theorem dX10_digit_49 : decode cX10_digit 49 = .ok (.iconst 0, 1) := by decide +kernel
theorem dX10_digit_50 : decode cX10_digit 50 = .ok (.ireturn, 1) := by decide +kernel
theorem dX10_digit_51 : decode cX10_digit 51 = .ok (.aload_n 0, 1) := by decide +kernel
theorem dX10_digit_52 : decode cX10_digit 52 = .ok (.dup, 1) := by decide +kernel
theorem dX10_digit_53 : decode cX10_digit 53 = .ok (.getfield 153, 3) := by decide +kernel
theorem dX10_digit_56 : decode cX10_digit 56 = .ok (.iconst 1, 1) := by decide +kernel
theorem dX10_digit_57 : decode cX10_digit 57 = .ok (.iadd, 1) := by decide +kernel
theorem dX10_digit_58 : decode cX10_digit 58 = .ok (.putfield 153, 3) := by decide +kernel
theorem dX10_digit_61 : decode cX10_digit 61 = .ok (.aload_n 0, 1) := by decide +kernel
theorem dX10_digit_62 : decode cX10_digit 62 = .ok (.getfield 19, 3) := by decide +kernel
theorem dX10_digit_65 : decode cX10_digit 65 = .ok (.aload_n 0, 1) := by decide +kernel
theorem dX10_digit_66 : decode cX10_digit 66 = .ok (.getfield 153, 3) := by decide +kernel
theorem dX10_digit_69 : decode cX10_digit 69 = .ok (.iconst 1, 1) := by decide +kernel
theorem dX10_digit_70 : decode cX10_digit 70 = .ok (.isub, 1) := by decide +kernel
theorem dX10_digit_71 : decode cX10_digit 71 = .ok (.caload, 1) := by decide +kernel
theorem dX10_digit_72 : decode cX10_digit 72 = .ok (.bipush 48, 2) := by decide +kernel
theorem dX10_digit_74 : decode cX10_digit 74 = .ok (.isub, 1) := by decide +kernel
theorem dX10_digit_75 : decode cX10_digit 75 = .ok (.ireturn, 1) := by decide +kernel
set_option maxRecDepth 20000 in
theorem ggX10_number_X10_digit : GoodIn wsX10_number wsX10_digit := goodIn_r _ [6, 1, 7, 8, 9, 10, 11, 5, 12, 13, 14, 15, 16, 17, 18, 19, 20, 21, 22, 23] (by decide +kernel) (by decide +kernel)
set_option maxRecDepth 20000 in
theorem gX10_number_X10_digit : GoodIn wsX10_number (wsV RX10 164 RX10 yX10_digit wsX10_digit) := goodIn_app (goodIn_of _ (by decide +kernel)) ggX10_number_X10_digit
set_option maxRecDepth 20000 in
theorem ggX10_number_X10_isAt : GoodIn wsX10_number wsX10_isAt := goodIn_r _ [12, 7, 13, 8, 14, 15, 16, 17, 18, 19, 20, 21, 22, 23] (by decide +kernel) (by decide +kernel)
set_option maxRecDepth 20000 in
theorem gX10_number_X10_isAt : GoodIn wsX10_number (wsV RX10 160 RX10 yX10_isAt wsX10_isAt) := goodIn_app (goodIn_of _ (by decide +kernel)) ggX10_number_X10_isAt
theorem dX10_number_0 : decode cX10_number 0 = .ok (.aload_n 0, 1) := by decide +kernel
theorem dX10_number_1 : decode cX10_number 1 = .ok (.iload_n 1, 1) := by decide +kernel
theorem dX10_number_2 : decode cX10_number 2 = .ok (.bipush 9, 2) := by decide +kernel
theorem dX10_number_4 : decode cX10_number 4 = .ok (.invokevirtual 164, 3) := by decide +kernel
theorem dX10_number_7 : decode cX10_number 7 = .ok (.istore_n 2, 1) := by decide +kernel
theorem dX10_number_8 : decode cX10_number 8 = .ok (.aload_n 0, 1) := by decide +kernel
theorem dX10_number_9 : decode cX10_number 9 = .ok (.getfield 156, 3) := by decide +kernel
theorem dX10_number_12 : decode cX10_number 12 = .ok (.ifCond .eq 33, 3) := by decide +kernel
theorem dX10_number_15 : decode cX10_number 15 = .ok (.iload_n 2, 1) := by decide +kernel
theorem dX10_number_16 : decode cX10_number 16 = .ok (.ifCond .le 29, 3) := by decide +kernel
theorem dX10_number_19 : decode cX10_number 19 = .ok (.aload_n 0, 1) := by decide +kernel
theorem dX10_number_20 : decode cX10_number 20 = .ok (.bipush 48, 2) := by decide +kernel
theorem dX10_number_22 : decode cX10_number 22 = .ok (.bipush 57, 2) := by decide +kernel
theorem dX10_number_24 : decode cX10_number 24 = .ok (.invokevirtual 160, 3) := by decide +kernel
theorem dX10_number_27 : decode cX10_number 27 = .ok (.ifCond .eq 18, 3) := by decide +kernel
theorem dX10_number_30 : decode cX10_number 30 = .ok (.bipush 10, 2) := by decide +kernel
theorem dX10_number_32 : decode cX10_number 32 = .ok (.iload_n 2, 1) := by decide +kernel
theorem dX10_number_33 : decode cX10_number 33 = .ok (.imul, 1) := by decide +kernel
theorem dX10_number_34 : decode cX10_number 34 = .ok (.aload_n 0, 1) := by decide +kernel
theorem dX10_number_35 : decode cX10_number 35 = .ok (.iconst 0, 1) := by decide +kernel
theorem dX10_number_36 : decode cX10_number 36 = .ok (.bipush 9, 2) := by decide +kernel
theorem dX10_number_38 : decode cX10_number 38 = .ok (.invokevirtual 164, 3) := by decide +kernel
theorem dX10_number_41 : decode cX10_number 41 = .ok (.iadd, 1) := by decide +kernel
theorem dX10_number_42 : decode cX10_number 42 = .ok (.goto 4, 3) := by decide +kernel
theorem dX10_number_45 : decode cX10_number 45 = .ok (.iload_n 2, 1) := by decide +kernel
theorem dX10_number_46 : decode cX10_number 46 = .ok (.ireturn, 1) := by decide +kernel
set_option maxRecDepth 20000 in
theorem ggX10_readOrder_X10_skips : GoodIn wsX10_readOrder wsX10_skips := goodIn_r _ [9, 4, 10, 11, 12, 13, 8, 14, 15, 16, 25, 26, 27, 28, 29, 30, 31, 32, 33, 34] (by decide +kernel) (by decide +kernel)
set_option maxRecDepth 20000 in
theorem gX10_readOrder_X10_skips : GoodIn wsX10_readOrder (wsV RX10 170 RX10 yX10_skips wsX10_skips) := goodIn_app (goodIn_of _ (by decide +kernel)) ggX10_readOrder_X10_skips
set_option maxRecDepth 20000 in
theorem ggX10_readOrder_X10_digit : GoodIn wsX10_readOrder wsX10_digit := goodIn_r _ [20, 4, 10, 16, 11, 12, 13, 8, 14, 15, 25, 26, 27, 28, 29, 30, 31, 32, 33, 34] (by decide +kernel) (by decide +kernel)
set_option maxRecDepth 20000 in
theorem gX10_readOrder_X10_digit : GoodIn wsX10_readOrder (wsV RX10 164 RX10 yX10_digit wsX10_digit) := goodIn_app (goodIn_of _ (by decide +kernel)) ggX10_readOrder_X10_digit
set_option maxRecDepth 20000 in
theorem ggX10_readOrder_X10_number : GoodIn wsX10_readOrder wsX10_number := goodIn_r _ [24, 4, 17, 18, 19, 8, 20, 10, 16, 11, 12, 13, 14, 15, 25, 26, 27, 28, 29, 30, 31, 32, 33, 34] (by decide +kernel) (by decide +kernel)
set_option maxRecDepth 20000 in
theorem gX10_readOrder_X10_number : GoodIn wsX10_readOrder (wsV RX10 174 RX10 yX10_number wsX10_number) := goodIn_app (goodIn_of _ (by decide +kernel)) ggX10_readOrder_X10_number
theorem dX10_readOrder_0 : decode cX10_readOrder 0 = .ok (.iconst 4, 1) := by decide +kernel
theorem dX10_readOrder_1 : decode cX10_readOrder 1 = .ok (.aload_n 0, 1) := by decide +kernel
theorem dX10_readOrder_2 : decode cX10_readOrder 2 = .ok (.getfield 167, 3) := by decide +kernel
theorem dX10_readOrder_5 : decode cX10_readOrder 5 = .ok (.imul, 1) := by decide +kernel
theorem dX10_readOrder_6 : decode cX10_readOrder 6 = .ok (.istore_n 1, 1) := by decide +kernel
theorem dX10_readOrder_7 : decode cX10_readOrder 7 = .ok (.aload_n 0, 1) := by decide +kernel
theorem dX10_readOrder_8 : decode cX10_readOrder 8 = .ok (.getfield 7, 3) := by decide +kernel
theorem dX10_readOrder_11 : decode cX10_readOrder 11 = .ok (.iconst 1, 1) := by decide +kernel
theorem dX10_readOrder_12 : decode cX10_readOrder 12 = .ok (.iaload, 1) := by decide +kernel
theorem dX10_readOrder_13 : decode cX10_readOrder 13 = .ok (.iconst 1, 1) := by decide +kernel
theorem dX10_readOrder_14 : decode cX10_readOrder 14 = .ok (.isub, 1) := by decide +kernel
theorem dX10_readOrder_15 : decode cX10_readOrder 15 = .ok (.istore_n 2, 1) := by decide +kernel
theorem dX10_readOrder_16 : decode cX10_readOrder 16 = .ok (.aload_n 0, 1) := by decide +kernel
theorem dX10_readOrder_17 : decode cX10_readOrder 17 = .ok (.getfield 23, 3) := by decide +kernel
theorem dX10_readOrder_20 : decode cX10_readOrder 20 = .ok (.iload_n 1, 1) := by decide +kernel
theorem dX10_readOrder_21 : decode cX10_readOrder 21 = .ok (.iconst 2, 1) := by decide +kernel
theorem dX10_readOrder_22 : decode cX10_readOrder 22 = .ok (.iadd, 1) := by decide +kernel
theorem dX10_readOrder_23 : decode cX10_readOrder 23 = .ok (.iconst (-1), 1) := by decide +kernel
theorem dX10_readOrder_24 : decode cX10_readOrder 24 = .ok (.iastore, 1) := by decide +kernel
theorem dX10_readOrder_25 : decode cX10_readOrder 25 = .ok (.aload_n 0, 1) := by decide +kernel
theorem dX10_readOrder_26 : decode cX10_readOrder 26 = .ok (.getfield 23, 3) := by decide +kernel
theorem dX10_readOrder_29 : decode cX10_readOrder 29 = .ok (.iload_n 1, 1) := by decide +kernel
theorem dX10_readOrder_30 : decode cX10_readOrder 30 = .ok (.iconst 3, 1) := by decide +kernel
theorem dX10_readOrder_31 : decode cX10_readOrder 31 = .ok (.iadd, 1) := by decide +kernel
theorem dX10_readOrder_32 : decode cX10_readOrder 32 = .ok (.iconst 0, 1) := by decide +kernel
theorem dX10_readOrder_33 : decode cX10_readOrder 33 = .ok (.iastore, 1) := by decide +kernel
theorem dX10_readOrder_34 : decode cX10_readOrder 34 = .ok (.aload_n 0, 1) := by decide +kernel
theorem dX10_readOrder_35 : decode cX10_readOrder 35 = .ok (.bipush 105, 2) := by decide +kernel
theorem dX10_readOrder_37 : decode cX10_readOrder 37 = .ok (.invokevirtual 170, 3) := by decide +kernel
theorem dX10_readOrder_40 : decode cX10_readOrder 40 = .ok (.ifCond .eq 75, 3) := by decide +kernel
theorem dX10_readOrder_43 : decode cX10_readOrder 43 = .ok (.aload_n 0, 1) := by decide +kernel
theorem dX10_readOrder_44 : decode cX10_readOrder 44 = .ok (.getfield 23, 3) := by decide +kernel
theorem dX10_readOrder_47 : decode cX10_readOrder 47 = .ok (.iload_n 1, 1) := by decide +kernel
theorem dX10_readOrder_48 : decode cX10_readOrder 48 = .ok (.iconst 0, 1) := by decide +kernel
theorem dX10_readOrder_49 : decode cX10_readOrder 49 = .ok (.iastore, 1) := by decide +kernel
theorem dX10_readOrder_50 : decode cX10_readOrder 50 = .ok (.aload_n 0, 1) := by decide +kernel
theorem dX10_readOrder_51 : decode cX10_readOrder 51 = .ok (.getfield 23, 3) := by decide +kernel
