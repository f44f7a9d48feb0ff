theorem dX8_goOut_47 : decode cX8_goOut 47 = .ok (.aload_n 3, 1) := by decide +kernel
theorem dX8_goOut_48 : decode cX8_goOut 48 = .ok (.getfield 142, 3) := by decide +kernel
theorem dX8_goOut_51 : decode cX8_goOut 51 = .ok (.iload_n 2, 1) := by decide +kernel
theorem dX8_goOut_52 : decode cX8_goOut 52 = .ok (.invokevirtual 130, 3) := by decide +kernel
theorem dX8_goOut_55 : decode cX8_goOut 55 = .ok (.aload_n 3, 1) := by decide +kernel
theorem dX8_goOut_56 : decode cX8_goOut 56 = .ok (.getfield 142, 3) := by decide +kernel
theorem dX8_goOut_59 : decode cX8_goOut 59 = .ok (.getfield 145, 3) := by decide +kernel
theorem dX8_goOut_62 : decode cX8_goOut 62 = .ok (.ireturn, 1) := by decide +kernel
set_option maxRecDepth 20000 in
theorem ggX8_moveQueues_X8_gateAt : GoodIn wsX8_moveQueues wsX8_gateAt := goodIn_r _ [7, 8, 9, 56, 57, 58, 59, 60, 61, 62, 63, 64, 65, 66] (by decide +kernel) (by decide +kernel)
set_option maxRecDepth 20000 in
theorem gX8_moveQueues_X8_gateAt : GoodIn wsX8_moveQueues (wsV RX8 89 RX8 yX8_gateAt wsX8_gateAt) := goodIn_app (goodIn_of _ (by decide +kernel)) ggX8_moveQueues_X8_gateAt
set_option maxRecDepth 20000 in
theorem ggX8_moveQueues_X1_queuesTogether : GoodIn wsX8_moveQueues wsX1_queuesTogether := goodIn_r _ [14, 15, 16, 17, 41, 42, 43, 44, 45, 46, 47, 48, 49, 50, 51, 52, 53, 54, 55, 67, 68] (by decide +kernel) (by decide +kernel)
set_option maxRecDepth 20000 in
theorem gX8_moveQueues_X1_queuesTogether : GoodIn wsX8_moveQueues (wsV RX8 148 RX1 yX1_queuesTogether wsX1_queuesTogether) := goodIn_app (goodIn_of _ (by decide +kernel)) ggX8_moveQueues_X1_queuesTogether
set_option maxRecDepth 20000 in
theorem ggX8_moveQueues_X8_moveQueue : GoodIn wsX8_moveQueues wsX8_moveQueue := goodIn_r _ [21, 22, 23, 24, 25, 26, 27, 28, 29, 30, 31, 32, 33, 6, 34, 35, 36, 37, 38, 39, 40, 67, 68, 69, 70, 71, 72, 73, 74, 75, 56, 57, 58, 59, 60, 61, 62, 63, 64, 65, 66] (by decide +kernel) (by decide +kernel)
set_option maxRecDepth 20000 in
theorem gX8_moveQueues_X8_moveQueue : GoodIn wsX8_moveQueues (wsV RX8 152 RX8 yX8_moveQueue wsX8_moveQueue) := goodIn_app (goodIn_of _ (by decide +kernel)) ggX8_moveQueues_X8_moveQueue
theorem dX8_moveQueues_0 : decode cX8_moveQueues 0 = .ok (.aload_n 0, 1) := by decide +kernel
theorem dX8_moveQueues_1 : decode cX8_moveQueues 1 = .ok (.iload_n 1, 1) := by decide +kernel
theorem dX8_moveQueues_2 : decode cX8_moveQueues 2 = .ok (.invokevirtual 89, 3) := by decide +kernel
theorem dX8_moveQueues_5 : decode cX8_moveQueues 5 = .ok (.astore_n 3, 1) := by decide +kernel
theorem dX8_moveQueues_6 : decode cX8_moveQueues 6 = .ok (.aload_n 0, 1) := by decide +kernel
theorem dX8_moveQueues_7 : decode cX8_moveQueues 7 = .ok (.iload_n 2, 1) := by decide +kernel
theorem dX8_moveQueues_8 : decode cX8_moveQueues 8 = .ok (.invokevirtual 89, 3) := by decide +kernel
theorem dX8_moveQueues_11 : decode cX8_moveQueues 11 = .ok (.astore 4, 2) := by decide +kernel
theorem dX8_moveQueues_13 : decode cX8_moveQueues 13 = .ok (.aload_n 3, 1) := by decide +kernel
theorem dX8_moveQueues_14 : decode cX8_moveQueues 14 = .ok (.ifnull 8, 3) := by decide +kernel
theorem dX8_moveQueues_17 : decode cX8_moveQueues 17 = .ok (.aload 4, 2) := by decide +kernel
theorem dX8_moveQueues_19 : decode cX8_moveQueues 19 = .ok (.ifnonnull 5, 3) := by decide +kernel
theorem dX8_moveQueues_22 : decode cX8_moveQueues 22 = .ok (.iconst (-1), 1) := by decide +kernel
theorem dX8_moveQueues_23 : decode cX8_moveQueues 23 = .ok (.ireturn, 1) := by decide +kernel
theorem dX8_moveQueues_24 : decode cX8_moveQueues 24 = .ok (.iload_n 1, 1) := by decide +kernel
theorem dX8_moveQueues_25 : decode cX8_moveQueues 25 = .ok (.iload_n 2, 1) := by decide +kernel
theorem dX8_moveQueues_26 : decode cX8_moveQueues 26 = .ok (.if_icmp .ne 6, 3) := by decide +kernel
theorem dX8_moveQueues_29 : decode cX8_moveQueues 29 = .ok (.bipush (-2), 2) := by decide +kernel
theorem dX8_moveQueues_31 : decode cX8_moveQueues 31 = .ok (.ireturn, 1) := by decide +kernel
theorem dX8_moveQueues_32 : decode cX8_moveQueues 32 = .ok (.aload_n 3, 1) := by decide +kernel
theorem dX8_moveQueues_33 : decode cX8_moveQueues 33 = .ok (.invokevirtual 148, 3) := by decide +kernel
theorem dX8_moveQueues_36 : decode cX8_moveQueues 36 = .ok (.istore 5, 2) := by decide +kernel
theorem dX8_moveQueues_38 : decode cX8_moveQueues 38 = .ok (.iload 5, 2) := by decide +kernel
theorem dX8_moveQueues_40 : decode cX8_moveQueues 40 = .ok (.ifCond .ne 6, 3) := by decide +kernel
theorem dX8_moveQueues_43 : decode cX8_moveQueues 43 = .ok (.bipush (-5), 2) := by decide +kernel
theorem dX8_moveQueues_45 : decode cX8_moveQueues 45 = .ok (.ireturn, 1) := by decide +kernel
theorem dX8_moveQueues_46 : decode cX8_moveQueues 46 = .ok (.aload_n 0, 1) := by decide +kernel
theorem dX8_moveQueues_47 : decode cX8_moveQueues 47 = .ok (.aload_n 3, 1) := by decide +kernel
theorem dX8_moveQueues_48 : decode cX8_moveQueues 48 = .ok (.getfield 126, 3) := by decide +kernel
theorem dX8_moveQueues_51 : decode cX8_moveQueues 51 = .ok (.aload 4, 2) := by decide +kernel
theorem dX8_moveQueues_53 : decode cX8_moveQueues 53 = .ok (.getfield 126, 3) := by decide +kernel
theorem dX8_moveQueues_56 : decode cX8_moveQueues 56 = .ok (.iload_n 2, 1) := by decide +kernel
theorem dX8_moveQueues_57 : decode cX8_moveQueues 57 = .ok (.invokevirtual 152, 3) := by decide +kernel
theorem dX8_moveQueues_60 : decode cX8_moveQueues 60 = .ok (.aload_n 0, 1) := by decide +kernel
theorem dX8_moveQueues_61 : decode cX8_moveQueues 61 = .ok (.aload_n 3, 1) := by decide +kernel
theorem dX8_moveQueues_62 : decode cX8_moveQueues 62 = .ok (.getfield 142, 3) := by decide +kernel
theorem dX8_moveQueues_65 : decode cX8_moveQueues 65 = .ok (.aload 4, 2) := by decide +kernel
theorem dX8_moveQueues_67 : decode cX8_moveQueues 67 = .ok (.getfield 142, 3) := by decide +kernel
theorem dX8_moveQueues_70 : decode cX8_moveQueues 70 = .ok (.iload_n 2, 1) := by decide +kernel
theorem dX8_moveQueues_71 : decode cX8_moveQueues 71 = .ok (.invokevirtual 152, 3) := by decide +kernel
theorem dX8_moveQueues_74 : decode cX8_moveQueues 74 = .ok (.iload 5, 2) := by decide +kernel
theorem dX8_moveQueues_76 : decode cX8_moveQueues 76 = .ok (.ireturn, 1) := by decide +kernel
set_option maxRecDepth 20000 in
theorem ggX8_moveQueue_X7_personAtPlace : GoodIn wsX8_moveQueue wsX7_personAtPlace := goodIn_r _ [7, 8, 9, 21, 22] (by decide +kernel) (by decide +kernel)
set_option maxRecDepth 20000 in
theorem gX8_moveQueue_X7_personAtPlace : GoodIn wsX8_moveQueue (wsV RX8 156 RX7 yX7_personAtPlace wsX7_personAtPlace) := goodIn_app (goodIn_of _ (by decide +kernel)) ggX8_moveQueue_X7_personAtPlace
set_option maxRecDepth 20000 in
theorem ggX8_moveQueue_X8_personAt : GoodIn wsX8_moveQueue wsX8_personAt := goodIn_r _ [14, 15, 16, 30, 31, 32, 33, 34, 35, 36, 37, 38, 39, 40] (by decide +kernel) (by decide +kernel)
set_option maxRecDepth 20000 in
theorem gX8_moveQueue_X8_personAt : GoodIn wsX8_moveQueue (wsV RX8 135 RX8 yX8_personAt wsX8_personAt) := goodIn_app (goodIn_of _ (by decide +kernel)) ggX8_moveQueue_X8_personAt
set_option maxRecDepth 20000 in
theorem ggX8_moveQueue_X7_append : GoodIn wsX8_moveQueue wsX7_append := goodIn_r _ [20, 8, 9, 21, 22] (by decide +kernel) (by decide +kernel)
set_option maxRecDepth 20000 in
theorem gX8_moveQueue_X7_append : GoodIn wsX8_moveQueue (wsV RX8 130 RX7 yX7_append wsX7_append) := goodIn_app (goodIn_of _ (by decide +kernel)) ggX8_moveQueue_X7_append
theorem dX8_moveQueue_0 : decode cX8_moveQueue 0 = .ok (.iconst 0, 1) := by decide +kernel
theorem dX8_moveQueue_1 : decode cX8_moveQueue 1 = .ok (.istore 4, 2) := by decide +kernel
theorem dX8_moveQueue_3 : decode cX8_moveQueue 3 = .ok (.iload 4, 2) := by decide +kernel
theorem dX8_moveQueue_5 : decode cX8_moveQueue 5 = .ok (.aload_n 1, 1) := by decide +kernel
theorem dX8_moveQueue_6 : decode cX8_moveQueue 6 = .ok (.getfield 145, 3) := by decide +kernel
theorem dX8_moveQueue_9 : decode cX8_moveQueue 9 = .ok (.if_icmp .ge 42, 3) := by decide +kernel
theorem dX8_moveQueue_12 : decode cX8_moveQueue 12 = .ok (.aload_n 1, 1) := by decide +kernel
theorem dX8_moveQueue_13 : decode cX8_moveQueue 13 = .ok (.iload 4, 2) := by decide +kernel
theorem dX8_moveQueue_15 : decode cX8_moveQueue 15 = .ok (.invokevirtual 156, 3) := by decide +kernel
theorem dX8_moveQueue_18 : decode cX8_moveQueue 18 = .ok (.istore 5, 2) := by decide +kernel
theorem dX8_moveQueue_20 : decode cX8_moveQueue 20 = .ok (.aload_n 0, 1) := by decide +kernel
theorem dX8_moveQueue_21 : decode cX8_moveQueue 21 = .ok (.iload 5, 2) := by decide +kernel
theorem dX8_moveQueue_23 : decode cX8_moveQueue 23 = .ok (.invokevirtual 135, 3) := by decide +kernel
theorem dX8_moveQueue_26 : decode cX8_moveQueue 26 = .ok (.astore 6, 2) := by decide +kernel
theorem dX8_moveQueue_28 : decode cX8_moveQueue 28 = .ok (.aload 6, 2) := by decide +kernel
theorem dX8_moveQueue_30 : decode cX8_moveQueue 30 = .ok (.ifnull 15, 3) := by decide +kernel
theorem dX8_moveQueue_33 : decode cX8_moveQueue 33 = .ok (.aload 6, 2) := by decide +kernel
theorem dX8_moveQueue_35 : decode cX8_moveQueue 35 = .ok (.iload_n 3, 1) := by decide +kernel
theorem dX8_moveQueue_36 : decode cX8_moveQueue 36 = .ok (.putfield 160, 3) := by decide +kernel
theorem dX8_moveQueue_39 : decode cX8_moveQueue 39 = .ok (.aload_n 2, 1) := by decide +kernel
theorem dX8_moveQueue_40 : decode cX8_moveQueue 40 = .ok (.iload 5, 2) := by decide +kernel
theorem dX8_moveQueue_42 : decode cX8_moveQueue 42 = .ok (.invokevirtual 130, 3) := by decide +kernel
theorem dX8_moveQueue_45 : decode cX8_moveQueue 45 = .ok (.iinc 4 1, 3) := by decide +kernel
theorem dX8_moveQueue_48 : decode cX8_moveQueue 48 = .ok (.goto (-45), 3) := by decide +kernel
theorem dX8_moveQueue_51 : decode cX8_moveQueue 51 = .ok (.aload_n 1, 1) := by decide +kernel
theorem dX8_moveQueue_52 : decode cX8_moveQueue 52 = .ok (.iconst 0, 1) := by decide +kernel
theorem dX8_moveQueue_53 : decode cX8_moveQueue 53 = .ok (.putfield 145, 3) := by decide +kernel
theorem dX8_moveQueue_56 : decode cX8_moveQueue 56 = .ok (.return_, 1) := by decide +kernel
set_option maxRecDepth 20000 in
theorem ggX8_tellPinch_X8_gateAt : GoodIn wsX8_tellPinch wsX8_gateAt := goodIn_r _ [7, 8, 9, 25, 26, 27, 28, 29, 30, 31, 32, 33, 34, 35] (by decide +kernel) (by decide +kernel)
set_option maxRecDepth 20000 in
theorem gX8_tellPinch_X8_gateAt : GoodIn wsX8_tellPinch (wsV RX8 89 RX8 yX8_gateAt wsX8_gateAt) := goodIn_app (goodIn_of _ (by decide +kernel)) ggX8_tellPinch_X8_gateAt
theorem dX8_tellPinch_0 : decode cX8_tellPinch 0 = .ok (.aload_n 0, 1) := by decide +kernel
theorem dX8_tellPinch_1 : decode cX8_tellPinch 1 = .ok (.iload_n 1, 1) := by decide +kernel
theorem dX8_tellPinch_2 : decode cX8_tellPinch 2 = .ok (.invokevirtual 89, 3) := by decide +kernel
theorem dX8_tellPinch_5 : decode cX8_tellPinch 5 = .ok (.astore_n 2, 1) := by decide +kernel
theorem dX8_tellPinch_6 : decode cX8_tellPinch 6 = .ok (.aload_n 2, 1) := by decide +kernel
theorem dX8_tellPinch_7 : decode cX8_tellPinch 7 = .ok (.ifnonnull 5, 3) := by decide +kernel
theorem dX8_tellPinch_10 : decode cX8_tellPinch 10 = .ok (.iconst (-1), 1) := by decide +kernel
theorem dX8_tellPinch_11 : decode cX8_tellPinch 11 = .ok (.ireturn, 1) := by decide +kernel
theorem dX8_tellPinch_12 : decode cX8_tellPinch 12 = .ok (.aload_n 2, 1) := by decide +kernel
theorem dX8_tellPinch_13 : decode cX8_tellPinch 13 = .ok (.getfield 163, 3) := by decide +kernel
theorem dX8_tellPinch_16 : decode cX8_tellPinch 16 = .ok (.iconst 5, 1) := by decide +kernel
theorem dX8_tellPinch_17 : decode cX8_tellPinch 17 = .ok (.if_icmp .ne 6, 3) := by decide +kernel
theorem dX8_tellPinch_20 : decode cX8_tellPinch 20 = .ok (.bipush (-4), 2) := by decide +kernel
theorem dX8_tellPinch_22 : decode cX8_tellPinch 22 = .ok (.ireturn, 1) := by decide +kernel
theorem dX8_tellPinch_23 : decode cX8_tellPinch 23 = .ok (.aload_n 2, 1) := by decide +kernel
theorem dX8_tellPinch_24 : decode cX8_tellPinch 24 = .ok (.getfield 166, 3) := by decide +kernel
theorem dX8_tellPinch_27 : decode cX8_tellPinch 27 = .ok (.ifCond .eq 6, 3) := by decide +kernel
theorem dX8_tellPinch_30 : decode cX8_tellPinch 30 = .ok (.bipush (-5), 2) := by decide +kernel
theorem dX8_tellPinch_32 : decode cX8_tellPinch 32 = .ok (.ireturn, 1) := by decide +kernel
theorem dX8_tellPinch_33 : decode cX8_tellPinch 33 = .ok (.aload_n 2, 1) := by decide +kernel
theorem dX8_tellPinch_34 : decode cX8_tellPinch 34 = .ok (.iconst 1, 1) := by decide +kernel
theorem dX8_tellPinch_35 : decode cX8_tellPinch 35 = .ok (.putfield 166, 3) := by decide +kernel
theorem dX8_tellPinch_38 : decode cX8_tellPinch 38 = .ok (.aload_n 2, 1) := by decide +kernel
theorem dX8_tellPinch_39 : decode cX8_tellPinch 39 = .ok (.getfield 163, 3) := by decide +kernel
theorem dX8_tellPinch_42 : decode cX8_tellPinch 42 = .ok (.iconst 3, 1) := by decide +kernel
theorem dX8_tellPinch_43 : decode cX8_tellPinch 43 = .ok (.if_icmp .ne 7, 3) := by decide +kernel
theorem dX8_tellPinch_46 : decode cX8_tellPinch 46 = .ok (.iconst 1, 1) := by decide +kernel
theorem dX8_tellPinch_47 : decode cX8_tellPinch 47 = .ok (.goto 4, 3) := by decide +kernel
theorem dX8_tellPinch_50 : decode cX8_tellPinch 50 = .ok (.iconst 0, 1) := by decide +kernel
theorem dX8_tellPinch_51 : decode cX8_tellPinch 51 = .ok (.ireturn, 1) := by decide +kernel
set_option maxRecDepth 20000 in
theorem ggX8_putOutOfOrder_X8_gateAt : GoodIn wsX8_putOutOfOrder wsX8_gateAt := goodIn_r _ [7, 8, 9, 93, 94, 95, 96, 97, 98, 99, 100, 101, 102, 103] (by decide +kernel) (by decide +kernel)
set_option maxRecDepth 20000 in
theorem gX8_putOutOfOrder_X8_gateAt : GoodIn wsX8_putOutOfOrder (wsV RX8 89 RX8 yX8_gateAt wsX8_gateAt) := goodIn_app (goodIn_of _ (by decide +kernel)) ggX8_putOutOfOrder_X8_gateAt
set_option maxRecDepth 20000 in
theorem ggX8_putOutOfOrder_X8_breakDown : GoodIn wsX8_putOutOfOrder wsX8_breakDown := goodIn_r _ [13, 14, 15, 16, 17, 18, 19, 20, 21, 22, 23, 24, 25, 26, 27, 28, 29, 30, 31, 32, 33, 34, 35, 36, 37, 38, 39, 40, 41, 42, 78, 79, 80, 81, 82, 83, 84, 85, 86, 87, 88, 89, 90, 91, 92, 93, 94, 95, 96, 97, 98, 99, 100, 101, 102, 103, 104, 105, 106, 107, 108, 109] (by decide +kernel) (by decide +kernel)
set_option maxRecDepth 20000 in
theorem gX8_putOutOfOrder_X8_breakDown : GoodIn wsX8_putOutOfOrder (wsV RX8 172 RX8 yX8_breakDown wsX8_breakDown) := goodIn_app (goodIn_of _ (by decide +kernel)) ggX8_putOutOfOrder_X8_breakDown
set_option maxRecDepth 20000 in
theorem ggX8_putOutOfOrder_X8_letThrough : GoodIn wsX8_putOutOfOrder wsX8_letThrough := goodIn_r _ [46, 2, 47, 48, 49, 50, 51, 15, 16, 52, 53, 54, 55, 6, 56, 57, 58, 59, 60, 61, 62, 63, 64, 65, 66, 67, 68, 69, 70, 71, 72, 73, 74, 75, 76, 77, 24, 25, 26, 27, 28, 29, 30, 31, 32, 33, 34, 35, 36, 37, 38, 39, 40, 41, 42, 78, 79, 80, 81, 82, 83, 84, 85, 86, 87, 88, 89, 90, 91, 92, 110, 111, 112, 113, 114, 115, 116, 93, 94, 95, 96, 97, 98, 99, 100, 101, 102, 103, 117, 118, 119, 120, 121, 122, 123, 124, 104, 105, 106, 107, 108, 109] (by decide +kernel) (by decide +kernel)
set_option maxRecDepth 20000 in
theorem gX8_putOutOfOrder_X8_letThrough : GoodIn wsX8_putOutOfOrder (wsV RX8 176 RX8 yX8_letThrough wsX8_letThrough) := goodIn_app (goodIn_of _ (by decide +kernel)) ggX8_putOutOfOrder_X8_letThrough
theorem dX8_putOutOfOrder_0 : decode cX8_putOutOfOrder 0 = .ok (.aload_n 0, 1) := by decide +kernel
theorem dX8_putOutOfOrder_1 : decode cX8_putOutOfOrder 1 = .ok (.iload_n 1, 1) := by decide +kernel
theorem dX8_putOutOfOrder_2 : decode cX8_putOutOfOrder 2 = .ok (.invokevirtual 89, 3) := by decide +kernel
theorem dX8_putOutOfOrder_5 : decode cX8_putOutOfOrder 5 = .ok (.astore_n 2, 1) := by decide +kernel
theorem dX8_putOutOfOrder_6 : decode cX8_putOutOfOrder 6 = .ok (.aload_n 2, 1) := by decide +kernel
theorem dX8_putOutOfOrder_7 : decode cX8_putOutOfOrder 7 = .ok (.ifnonnull 5, 3) := by decide +kernel
theorem dX8_putOutOfOrder_10 : decode cX8_putOutOfOrder 10 = .ok (.iconst (-1), 1) := by decide +kernel
theorem dX8_putOutOfOrder_11 : decode cX8_putOutOfOrder 11 = .ok (.ireturn, 1) := by decide +kernel
theorem dX8_putOutOfOrder_12 : decode cX8_putOutOfOrder 12 = .ok (.aload_n 2, 1) := by decide +kernel
theorem dX8_putOutOfOrder_13 : decode cX8_putOutOfOrder 13 = .ok (.getfield 163, 3) := by decide +kernel
theorem dX8_putOutOfOrder_16 : decode cX8_putOutOfOrder 16 = .ok (.iconst 5, 1) := by decide +kernel
theorem dX8_putOutOfOrder_17 : decode cX8_putOutOfOrder 17 = .ok (.if_icmp .ne 6, 3) := by decide +kernel
theorem dX8_putOutOfOrder_20 : decode cX8_putOutOfOrder 20 = .ok (.bipush (-4), 2) := by decide +kernel
theorem dX8_putOutOfOrder_22 : decode cX8_putOutOfOrder 22 = .ok (.ireturn, 1) := by decide +kernel
theorem dX8_putOutOfOrder_23 : decode cX8_putOutOfOrder 23 = .ok (.aload_n 2, 1) := by decide +kernel
theorem dX8_putOutOfOrder_24 : decode cX8_putOutOfOrder 24 = .ok (.getfield 169, 3) := by decide +kernel
theorem dX8_putOutOfOrder_27 : decode cX8_putOutOfOrder 27 = .ok (.istore_n 3, 1) := by decide +kernel
theorem dX8_putOutOfOrder_28 : decode cX8_putOutOfOrder 28 = .ok (.aload_n 0, 1) := by decide +kernel
theorem dX8_putOutOfOrder_29 : decode cX8_putOutOfOrder 29 = .ok (.iload_n 1, 1) := by decide +kernel
theorem dX8_putOutOfOrder_30 : decode cX8_putOutOfOrder 30 = .ok (.aload_n 2, 1) := by decide +kernel
theorem dX8_putOutOfOrder_31 : decode cX8_putOutOfOrder 31 = .ok (.invokevirtual 172, 3) := by decide +kernel
theorem dX8_putOutOfOrder_34 : decode cX8_putOutOfOrder 34 = .ok (.aload_n 0, 1) := by decide +kernel
theorem dX8_putOutOfOrder_35 : decode cX8_putOutOfOrder 35 = .ok (.iload_n 1, 1) := by decide +kernel
theorem dX8_putOutOfOrder_36 : decode cX8_putOutOfOrder 36 = .ok (.aload_n 2, 1) := by decide +kernel
theorem dX8_putOutOfOrder_37 : decode cX8_putOutOfOrder 37 = .ok (.invokevirtual 176, 3) := by decide +kernel
theorem dX8_putOutOfOrder_40 : decode cX8_putOutOfOrder 40 = .ok (.pop, 1) := by decide +kernel
theorem dX8_putOutOfOrder_41 : decode cX8_putOutOfOrder 41 = .ok (.iload_n 3, 1) := by decide +kernel
theorem dX8_putOutOfOrder_42 : decode cX8_putOutOfOrder 42 = .ok (.ireturn, 1) := by decide +kernel
set_option maxRecDepth 20000 in
theorem ggX8_putInOrder_X8_gateAt : GoodIn wsX8_putInOrder wsX8_gateAt := goodIn_r _ [9, 10, 11, 60, 61, 62, 63, 64, 65, 66, 67, 68, 69, 70] (by decide +kernel) (by decide +kernel)
set_option maxRecDepth 20000 in
theorem gX8_putInOrder_X8_gateAt : GoodIn wsX8_putInOrder (wsV RX8 89 RX8 yX8_gateAt wsX8_gateAt) := goodIn_app (goodIn_of _ (by decide +kernel)) ggX8_putInOrder_X8_gateAt
set_option maxRecDepth 20000 in
theorem ggX8_putInOrder_X1_turnTo : GoodIn wsX8_putInOrder wsX1_turnTo := goodIn_r _ [16, 17, 18, 45, 46, 47, 48, 49, 50, 51, 52, 53, 54, 55, 56, 57, 58, 59] (by decide +kernel) (by decide +kernel)
set_option maxRecDepth 20000 in
theorem gX8_putInOrder_X1_turnTo : GoodIn wsX8_putInOrder (wsV RX8 180 RX1 yX1_turnTo wsX1_turnTo) := goodIn_app (goodIn_of _ (by decide +kernel)) ggX8_putInOrder_X1_turnTo
set_option maxRecDepth 20000 in
theorem ggX8_putInOrder_X0_add : GoodIn wsX8_putInOrder wsX0_add := goodIn_r _ [23, 24, 25, 26, 27, 28, 29, 30, 31, 32, 33, 34, 35, 36, 37, 71, 72, 73, 74, 75, 76] (by decide +kernel) (by decide +kernel)
set_option maxRecDepth 20000 in
theorem gX8_putInOrder_X0_add : GoodIn wsX8_putInOrder (wsV RX8 184 RX0 yX0_add wsX0_add) := goodIn_app (goodIn_of _ (by decide +kernel)) ggX8_putInOrder_X0_add
set_option maxRecDepth 20000 in
theorem ggX8_putInOrder_X1_queuesTogether : GoodIn wsX8_putInOrder wsX1_queuesTogether := goodIn_r _ [41, 42, 43, 44, 45, 46, 47, 48, 49, 50, 51, 52, 53, 54, 55, 56, 57, 58, 59, 77, 78] (by decide +kernel) (by decide +kernel)
set_option maxRecDepth 20000 in
theorem gX8_putInOrder_X1_queuesTogether : GoodIn wsX8_putInOrder (wsV RX8 148 RX1 yX1_queuesTogether wsX1_queuesTogether) := goodIn_app (goodIn_of _ (by decide +kernel)) ggX8_putInOrder_X1_queuesTogether
theorem dX8_putInOrder_0 : decode cX8_putInOrder 0 = .ok (.aload_n 0, 1) := by decide +kernel
theorem dX8_putInOrder_1 : decode cX8_putInOrder 1 = .ok (.iload_n 1, 1) := by decide +kernel
theorem dX8_putInOrder_2 : decode cX8_putInOrder 2 = .ok (.invokevirtual 89, 3) := by decide +kernel
theorem dX8_putInOrder_5 : decode cX8_putInOrder 5 = .ok (.astore_n 2, 1) := by decide +kernel
theorem dX8_putInOrder_6 : decode cX8_putInOrder 6 = .ok (.aload_n 2, 1) := by decide +kernel
theorem dX8_putInOrder_7 : decode cX8_putInOrder 7 = .ok (.ifnonnull 5, 3) := by decide +kernel
theorem dX8_putInOrder_10 : decode cX8_putInOrder 10 = .ok (.iconst (-1), 1) := by decide +kernel
theorem dX8_putInOrder_11 : decode cX8_putInOrder 11 = .ok (.ireturn, 1) := by decide +kernel
theorem dX8_putInOrder_12 : decode cX8_putInOrder 12 = .ok (.aload_n 2, 1) := by decide +kernel
theorem dX8_putInOrder_13 : decode cX8_putInOrder 13 = .ok (.getfield 163, 3) := by decide +kernel
theorem dX8_putInOrder_16 : decode cX8_putInOrder 16 = .ok (.iconst 5, 1) := by decide +kernel
theorem dX8_putInOrder_17 : decode cX8_putInOrder 17 = .ok (.if_icmp .eq 6, 3) := by decide +kernel
theorem dX8_putInOrder_20 : decode cX8_putInOrder 20 = .ok (.bipush (-4), 2) := by decide +kernel
theorem dX8_putInOrder_22 : decode cX8_putInOrder 22 = .ok (.ireturn, 1) := by decide +kernel
theorem dX8_putInOrder_23 : decode cX8_putInOrder 23 = .ok (.aload_n 2, 1) := by decide +kernel
theorem dX8_putInOrder_24 : decode cX8_putInOrder 24 = .ok (.iconst 0, 1) := by decide +kernel
theorem dX8_putInOrder_25 : decode cX8_putInOrder 25 = .ok (.iconst 0, 1) := by decide +kernel
theorem dX8_putInOrder_26 : decode cX8_putInOrder 26 = .ok (.invokevirtual 180, 3) := by decide +kernel
theorem dX8_putInOrder_29 : decode cX8_putInOrder 29 = .ok (.aload_n 2, 1) := by decide +kernel
theorem dX8_putInOrder_30 : decode cX8_putInOrder 30 = .ok (.iconst 0, 1) := by decide +kernel
theorem dX8_putInOrder_31 : decode cX8_putInOrder 31 = .ok (.putfield 166, 3) := by decide +kernel
theorem dX8_putInOrder_34 : decode cX8_putInOrder 34 = .ok (.aload_n 0, 1) := by decide +kernel
theorem dX8_putInOrder_35 : decode cX8_putInOrder 35 = .ok (.getfield 38, 3) := by decide +kernel
theorem dX8_putInOrder_38 : decode cX8_putInOrder 38 = .ok (.aload_n 0, 1) := by decide +kernel
theorem dX8_putInOrder_39 : decode cX8_putInOrder 39 = .ok (.getfield 78, 3) := by decide +kernel
theorem dX8_putInOrder_42 : decode cX8_putInOrder 42 = .ok (.iload_n 1, 1) := by decide +kernel
theorem dX8_putInOrder_43 : decode cX8_putInOrder 43 = .ok (.bipush (-5), 2) := by decide +kernel
theorem dX8_putInOrder_45 : decode cX8_putInOrder 45 = .ok (.bipush 6, 2) := by decide +kernel
theorem dX8_putInOrder_47 : decode cX8_putInOrder 47 = .ok (.invokevirtual 184, 3) := by decide +kernel
theorem dX8_putInOrder_50 : decode cX8_putInOrder 50 = .ok (.aload_n 2, 1) := by decide +kernel
theorem dX8_putInOrder_51 : decode cX8_putInOrder 51 = .ok (.invokevirtual 148, 3) := by decide +kernel
theorem dX8_putInOrder_54 : decode cX8_putInOrder 54 = .ok (.ireturn, 1) := by decide +kernel
set_option maxRecDepth 20000 in
theorem ggX8_letTicksGo_X9_isBetween : GoodIn wsX8_letTicksGo wsX9_isBetween := goodIn_r _ [6] (by decide +kernel) (by decide +kernel)
set_option maxRecDepth 20000 in
theorem gX8_letTicksGo_X9_isBetween_n81 : GoodIn wsX8_letTicksGo (wsX9_isBetween) := ggX8_letTicksGo_X9_isBetween
set_option maxRecDepth 20000 in
theorem ggX8_letTicksGo_X8_stepGate : GoodIn wsX8_letTicksGo wsX8_stepGate := goodIn_r _ [11, 12, 13, 14, 15, 16, 17, 18, 19, 10, 20, 21, 22, 23, 3, 24, 25, 26, 27, 28, 29, 30, 31, 32, 33, 34, 35, 36, 37, 38, 39, 40, 41, 42, 43, 44, 45, 46, 47, 48, 49, 50, 51, 52, 53, 54, 55, 56, 57, 58, 59, 60, 61, 62, 63, 64, 65, 66, 67, 68, 69, 70, 71, 72, 73, 74, 75, 76, 77, 78, 79, 80, 81, 82, 83, 84, 85, 86, 87, 88, 89, 90, 91, 92, 93, 94, 95, 96, 97, 98, 99, 100, 101, 102, 103, 104, 105, 106, 107, 108, 109, 110, 111, 112, 113, 114, 115, 116, 117, 118, 119, 120, 121, 122, 123, 124, 125, 126, 127, 128, 129, 130, 131, 132, 133, 134, 135, 136, 137, 138, 139, 140, 141, 142, 143, 144, 145, 146, 147, 148, 160, 161, 162, 163, 164, 165, 166, 167, 168, 169, 170, 171, 172, 173, 174, 175, 176, 177, 178, 179, 180, 181, 149, 150, 151, 152, 153, 154, 155, 156, 157, 158, 159, 182, 183, 184, 185, 186, 187, 188, 189, 190, 191, 192, 193, 194, 195, 196, 197] (by decide +kernel) (by decide +kernel)
set_option maxRecDepth 20000 in
theorem gX8_letTicksGo_X8_stepGate : GoodIn wsX8_letTicksGo (wsV RX8 187 RX8 yX8_stepGate wsX8_stepGate) := goodIn_app (goodIn_of _ (by decide +kernel)) ggX8_letTicksGo_X8_stepGate
theorem dX8_letTicksGo_0 : decode cX8_letTicksGo 0 = .ok (.iconst 1, 1) := by decide +kernel
theorem dX8_letTicksGo_1 : decode cX8_letTicksGo 1 = .ok (.iload_n 1, 1) := by decide +kernel
theorem dX8_letTicksGo_2 : decode cX8_letTicksGo 2 = .ok (.sipush 200, 3) := by decide +kernel
theorem dX8_letTicksGo_5 : decode cX8_letTicksGo 5 = .ok (.invokestatic 81, 3) := by decide +kernel
theorem dX8_letTicksGo_8 : decode cX8_letTicksGo 8 = .ok (.ifCond .ne 6, 3) := by decide +kernel
theorem dX8_letTicksGo_11 : decode cX8_letTicksGo 11 = .ok (.bipush (-2), 2) := by decide +kernel
theorem dX8_letTicksGo_13 : decode cX8_letTicksGo 13 = .ok (.ireturn, 1) := by decide +kernel
theorem dX8_letTicksGo_14 : decode cX8_letTicksGo 14 = .ok (.iconst 0, 1) := by decide +kernel
theorem dX8_letTicksGo_15 : decode cX8_letTicksGo 15 = .ok (.istore_n 2, 1) := by decide +kernel
theorem dX8_letTicksGo_16 : decode cX8_letTicksGo 16 = .ok (.iconst 0, 1) := by decide +kernel
theorem dX8_letTicksGo_17 : decode cX8_letTicksGo 17 = .ok (.istore_n 3, 1) := by decide +kernel
theorem dX8_letTicksGo_18 : decode cX8_letTicksGo 18 = .ok (.iload_n 3, 1) := by decide +kernel
theorem dX8_letTicksGo_19 : decode cX8_letTicksGo 19 = .ok (.iload_n 1, 1) := by decide +kernel
theorem dX8_letTicksGo_20 : decode cX8_letTicksGo 20 = .ok (.if_icmp .ge 63, 3) := by decide +kernel
theorem dX8_letTicksGo_23 : decode cX8_letTicksGo 23 = .ok (.iconst 0, 1) := by decide +kernel
theorem dX8_letTicksGo_24 : decode cX8_letTicksGo 24 = .ok (.istore 4, 2) := by decide +kernel
theorem dX8_letTicksGo_26 : decode cX8_letTicksGo 26 = .ok (.iload 4, 2) := by decide +kernel
theorem dX8_letTicksGo_28 : decode cX8_letTicksGo 28 = .ok (.aload_n 0, 1) := by decide +kernel
theorem dX8_letTicksGo_29 : decode cX8_letTicksGo 29 = .ok (.getfield 50, 3) := by decide +kernel
theorem dX8_letTicksGo_32 : decode cX8_letTicksGo 32 = .ok (.if_icmp .ge 35, 3) := by decide +kernel
theorem dX8_letTicksGo_35 : decode cX8_letTicksGo 35 = .ok (.iload 4, 2) := by decide +kernel
theorem dX8_letTicksGo_37 : decode cX8_letTicksGo 37 = .ok (.aload_n 0, 1) := by decide +kernel
theorem dX8_letTicksGo_38 : decode cX8_letTicksGo 38 = .ok (.getfield 11, 3) := by decide +kernel
theorem dX8_letTicksGo_41 : decode cX8_letTicksGo 41 = .ok (.arraylength, 1) := by decide +kernel
theorem dX8_letTicksGo_42 : decode cX8_letTicksGo 42 = .ok (.if_icmp .ge 25, 3) := by decide +kernel
theorem dX8_letTicksGo_45 : decode cX8_letTicksGo 45 = .ok (.iload_n 2, 1) := by decide +kernel
theorem dX8_letTicksGo_46 : decode cX8_letTicksGo 46 = .ok (.aload_n 0, 1) := by decide +kernel
theorem dX8_letTicksGo_47 : decode cX8_letTicksGo 47 = .ok (.iload 4, 2) := by decide +kernel
theorem dX8_letTicksGo_49 : decode cX8_letTicksGo 49 = .ok (.aload_n 0, 1) := by decide +kernel
theorem dX8_letTicksGo_50 : decode cX8_letTicksGo 50 = .ok (.getfield 11, 3) := by decide +kernel
theorem dX8_letTicksGo_53 : decode cX8_letTicksGo 53 = .ok (.iload 4, 2) := by decide +kernel
theorem dX8_letTicksGo_55 : decode cX8_letTicksGo 55 = .ok (.aaload, 1) := by decide +kernel
theorem dX8_letTicksGo_56 : decode cX8_letTicksGo 56 = .ok (.invokevirtual 187, 3) := by decide +kernel
theorem dX8_letTicksGo_59 : decode cX8_letTicksGo 59 = .ok (.iadd, 1) := by decide +kernel
theorem dX8_letTicksGo_60 : decode cX8_letTicksGo 60 = .ok (.istore_n 2, 1) := by decide +kernel
theorem dX8_letTicksGo_61 : decode cX8_letTicksGo 61 = .ok (.iinc 4 1, 3) := by decide +kernel
theorem dX8_letTicksGo_64 : decode cX8_letTicksGo 64 = .ok (.goto (-38), 3) := by decide +kernel
theorem dX8_letTicksGo_67 : decode cX8_letTicksGo 67 = .ok (.aload_n 0, 1) := by decide +kernel
theorem dX8_letTicksGo_68 : decode cX8_letTicksGo 68 = .ok (.dup, 1) := by decide +kernel
theorem dX8_letTicksGo_69 : decode cX8_letTicksGo 69 = .ok (.getfield 78, 3) := by decide +kernel
theorem dX8_letTicksGo_72 : decode cX8_letTicksGo 72 = .ok (.iconst 1, 1) := by decide +kernel
theorem dX8_letTicksGo_73 : decode cX8_letTicksGo 73 = .ok (.iadd, 1) := by decide +kernel
theorem dX8_letTicksGo_74 : decode cX8_letTicksGo 74 = .ok (.putfield 78, 3) := by decide +kernel
theorem dX8_letTicksGo_77 : decode cX8_letTicksGo 77 = .ok (.iinc 3 1, 3) := by decide +kernel
theorem dX8_letTicksGo_80 : decode cX8_letTicksGo 80 = .ok (.goto (-62), 3) := by decide +kernel
theorem dX8_letTicksGo_83 : decode cX8_letTicksGo 83 = .ok (.iload_n 2, 1) := by decide +kernel
theorem dX8_letTicksGo_84 : decode cX8_letTicksGo 84 = .ok (.ireturn, 1) := by decide +kernel
set_option maxRecDepth 20000 in
theorem ggX8_ticksUntilPassed_X8_personAt : GoodIn wsX8_ticksUntilPassed wsX8_personAt := goodIn_r _ [6, 7, 8, 160, 161, 162, 163, 164, 165, 166, 167, 168, 169, 170] (by decide +kernel) (by decide +kernel)
set_option maxRecDepth 20000 in
theorem gX8_ticksUntilPassed_X8_personAt : GoodIn wsX8_ticksUntilPassed (wsV RX8 135 RX8 yX8_personAt wsX8_personAt) := goodIn_app (goodIn_of _ (by decide +kernel)) ggX8_ticksUntilPassed_X8_personAt
set_option maxRecDepth 20000 in
theorem ggX8_ticksUntilPassed_X8_letTicksGo : GoodIn wsX8_ticksUntilPassed wsX8_letTicksGo := goodIn_r _ [12, 13, 14, 15, 16, 17, 18, 19, 20, 21, 5, 22, 23, 24, 25, 26, 27, 28, 29, 30, 31, 32, 33, 34, 35, 1, 36, 37, 38, 39, 40, 41, 42, 43, 44, 45, 46, 47, 48, 49, 50, 51, 52, 2, 3, 4, 6, 7, 8, 53, 54, 55, 56, 57, 58, 59, 60, 61, 62, 63, 64, 65, 66, 67, 68, 69, 70, 71, 72, 73, 74, 75, 76, 77, 78, 79, 80, 81, 82, 83, 84, 85, 86, 87, 88, 89, 90, 91, 92, 93, 94, 95, 96, 97, 98, 99, 100, 101, 102, 103, 104, 105, 106, 107, 108, 109, 110, 111, 112, 113, 114, 115, 116, 117, 118, 119, 120, 121, 122, 123, 124, 125, 126, 127, 128, 129, 130, 131, 132, 133, 134, 135, 136, 137, 138, 139, 140, 141, 142, 143, 144, 145, 146, 147, 148, 149, 150, 151, 152, 160, 161, 162, 163, 164, 165, 166, 167, 168, 169, 170, 171, 172, 173, 174, 175, 176, 177, 178, 179, 180, 181, 182, 183, 184, 185, 153, 154, 155, 156, 157, 158, 159, 186, 187, 188, 189, 190, 191, 192, 193, 194, 195, 196, 197, 198, 199, 200, 201] (by decide +kernel) (by decide +kernel)
set_option maxRecDepth 20000 in
theorem gX8_ticksUntilPassed_X8_letTicksGo : GoodIn wsX8_ticksUntilPassed (wsV RX8 190 RX8 yX8_letTicksGo wsX8_letTicksGo) := goodIn_app (goodIn_of _ (by decide +kernel)) ggX8_ticksUntilPassed_X8_letTicksGo
theorem dX8_ticksUntilPassed_0 : decode cX8_ticksUntilPassed 0 = .ok (.aload_n 0, 1) := by decide +kernel
theorem dX8_ticksUntilPassed_1 : decode cX8_ticksUntilPassed 1 = .ok (.iload_n 1, 1) := by decide +kernel
theorem dX8_ticksUntilPassed_2 : decode cX8_ticksUntilPassed 2 = .ok (.invokevirtual 135, 3) := by decide +kernel
theorem dX8_ticksUntilPassed_5 : decode cX8_ticksUntilPassed 5 = .ok (.astore_n 2, 1) := by decide +kernel
theorem dX8_ticksUntilPassed_6 : decode cX8_ticksUntilPassed 6 = .ok (.iconst 1, 1) := by decide +kernel
theorem dX8_ticksUntilPassed_7 : decode cX8_ticksUntilPassed 7 = .ok (.istore_n 3, 1) := by decide +kernel
theorem dX8_ticksUntilPassed_8 : decode cX8_ticksUntilPassed 8 = .ok (.aload_n 2, 1) := by decide +kernel
theorem dX8_ticksUntilPassed_9 : decode cX8_ticksUntilPassed 9 = .ok (.ifnull 50, 3) := by decide +kernel
theorem dX8_ticksUntilPassed_12 : decode cX8_ticksUntilPassed 12 = .ok (.iload_n 3, 1) := by decide +kernel
theorem dX8_ticksUntilPassed_13 : decode cX8_ticksUntilPassed 13 = .ok (.sipush 500, 3) := by decide +kernel
theorem dX8_ticksUntilPassed_16 : decode cX8_ticksUntilPassed 16 = .ok (.if_icmp .gt 43, 3) := by decide +kernel
theorem dX8_ticksUntilPassed_19 : decode cX8_ticksUntilPassed 19 = .ok (.aload_n 0, 1) := by decide +kernel
theorem dX8_ticksUntilPassed_20 : decode cX8_ticksUntilPassed 20 = .ok (.iconst 1, 1) := by decide +kernel
theorem dX8_ticksUntilPassed_21 : decode cX8_ticksUntilPassed 21 = .ok (.invokevirtual 190, 3) := by decide +kernel
theorem dX8_ticksUntilPassed_24 : decode cX8_ticksUntilPassed 24 = .ok (.pop, 1) := by decide +kernel
theorem dX8_ticksUntilPassed_25 : decode cX8_ticksUntilPassed 25 = .ok (.aload_n 2, 1) := by decide +kernel
theorem dX8_ticksUntilPassed_26 : decode cX8_ticksUntilPassed 26 = .ok (.getfield 139, 3) := by decide +kernel
theorem dX8_ticksUntilPassed_29 : decode cX8_ticksUntilPassed 29 = .ok (.iconst 3, 1) := by decide +kernel
theorem dX8_ticksUntilPassed_30 : decode cX8_ticksUntilPassed 30 = .ok (.if_icmp .eq 11, 3) := by decide +kernel
theorem dX8_ticksUntilPassed_33 : decode cX8_ticksUntilPassed 33 = .ok (.aload_n 2, 1) := by decide +kernel
theorem dX8_ticksUntilPassed_34 : decode cX8_ticksUntilPassed 34 = .ok (.getfield 139, 3) := by decide +kernel
theorem dX8_ticksUntilPassed_37 : decode cX8_ticksUntilPassed 37 = .ok (.iconst 5, 1) := by decide +kernel
theorem dX8_ticksUntilPassed_38 : decode cX8_ticksUntilPassed 38 = .ok (.if_icmp .ne 5, 3) := by decide +kernel
theorem dX8_ticksUntilPassed_41 : decode cX8_ticksUntilPassed 41 = .ok (.iload_n 3, 1) := by decide +kernel
theorem dX8_ticksUntilPassed_42 : decode cX8_ticksUntilPassed 42 = .ok (.ireturn, 1) := by decide +kernel
theorem dX8_ticksUntilPassed_43 : decode cX8_ticksUntilPassed 43 = .ok (.aload_n 2, 1) := by decide +kernel
theorem dX8_ticksUntilPassed_44 : decode cX8_ticksUntilPassed 44 = .ok (.getfield 139, 3) := by decide +kernel
theorem dX8_ticksUntilPassed_47 : decode cX8_ticksUntilPassed 47 = .ok (.ifCond .ne 6, 3) := by decide +kernel
theorem dX8_ticksUntilPassed_50 : decode cX8_ticksUntilPassed 50 = .ok (.bipush (-5), 2) := by decide +kernel
theorem dX8_ticksUntilPassed_52 : decode cX8_ticksUntilPassed 52 = .ok (.ireturn, 1) := by decide +kernel
theorem dX8_ticksUntilPassed_53 : decode cX8_ticksUntilPassed 53 = .ok (.iinc 3 1, 3) := by decide +kernel
theorem dX8_ticksUntilPassed_56 : decode cX8_ticksUntilPassed 56 = .ok (.goto (-48), 3) := by decide +kernel
theorem dX8_ticksUntilPassed_59 : decode cX8_ticksUntilPassed 59 = .ok (.bipush (-5), 2) := by decide +kernel
theorem dX8_ticksUntilPassed_61 : decode cX8_ticksUntilPassed 61 = .ok (.ireturn, 1) := by decide +kernel
set_option maxRecDepth 20000 in
theorem ggX8_stepGate_X8_takeNext : GoodIn wsX8_stepGate wsX8_takeNext := goodIn_r _ [10, 11, 12, 13, 14, 15, 16, 5, 17, 18, 19, 20, 21, 9, 22, 23, 24, 25, 26, 27, 28, 29, 30, 31, 32, 33, 34, 35, 36, 37, 38, 39, 40, 41, 42, 43, 44, 45, 46, 47, 48, 49, 50, 51, 52, 53, 54, 55, 56, 57, 58, 59, 60, 61, 62, 63, 64, 65, 66, 67, 68, 69, 70, 71, 72, 73, 74, 75, 76, 77, 78, 79, 80, 81, 82, 83, 84, 85, 86, 87, 88, 89, 90, 91, 92, 93, 94, 95, 96, 97, 98, 99, 100, 101, 102, 103, 104, 105, 106, 107, 108, 109, 155, 156, 157, 158, 159, 160, 161, 140, 141, 142, 143, 144, 145, 146, 147, 148, 149, 150, 151, 152, 153, 154, 162, 163, 164, 165, 166, 167, 168, 169, 170, 171, 172, 173, 174, 175, 176, 177, 178, 179, 180, 181, 182, 183, 184, 185, 186, 187, 188] (by decide +kernel) (by decide +kernel)
set_option maxRecDepth 20000 in
theorem gX8_stepGate_X8_takeNext : GoodIn wsX8_stepGate (wsV RX8 193 RX8 yX8_takeNext wsX8_takeNext) := goodIn_app (goodIn_of _ (by decide +kernel)) ggX8_stepGate_X8_takeNext
set_option maxRecDepth 20000 in
theorem ggX8_stepGate_X8_stepClosing : GoodIn wsX8_stepGate wsX8_stepClosing := goodIn_r _ [113, 114, 115, 17, 13, 14, 5, 3, 2, 79, 80, 81, 82, 83, 84, 85, 86, 87, 88, 89, 90, 91, 92, 93, 94, 95, 96, 97, 116, 117, 118, 9, 119, 103, 104, 105, 106, 107, 108, 109, 140, 141, 142, 143, 144, 145, 146, 147, 148, 149, 150, 151, 152, 153, 154, 162, 163, 164, 165, 166, 167, 168, 169, 170, 171, 172, 183, 184, 185, 186, 187, 188] (by decide +kernel) (by decide +kernel)
set_option maxRecDepth 20000 in
theorem gX8_stepGate_X8_stepClosing : GoodIn wsX8_stepGate (wsV RX8 199 RX8 yX8_stepClosing wsX8_stepClosing) := goodIn_app (goodIn_of _ (by decide +kernel)) ggX8_stepGate_X8_stepClosing
set_option maxRecDepth 20000 in
theorem ggX8_stepGate_X1_holdsPerson : GoodIn wsX8_stepGate wsX1_holdsPerson := goodIn_r _ [123, 108, 140, 141, 142, 143, 144, 145, 146, 147, 148, 149, 150, 151, 152, 153, 154] (by decide +kernel) (by decide +kernel)
set_option maxRecDepth 20000 in
theorem gX8_stepGate_X1_holdsPerson : GoodIn wsX8_stepGate (wsV RX8 202 RX1 yX1_holdsPerson wsX1_holdsPerson) := goodIn_app (goodIn_of _ (by decide +kernel)) ggX8_stepGate_X1_holdsPerson
set_option maxRecDepth 20000 in
theorem ggX8_stepGate_X8_letThrough : GoodIn wsX8_stepGate wsX8_letThrough := goodIn_r _ [127, 5, 128, 11, 129, 16, 15, 13, 14, 130, 34, 35, 36, 9, 37, 38, 39, 59, 60, 61, 62, 63, 64, 131, 132, 133, 134, 54, 52, 55, 65, 66, 67, 68, 69, 70, 79, 80, 81, 82, 83, 84, 85, 86, 87, 88, 89, 90, 91, 92, 93, 94, 95, 96, 97, 140, 141, 142, 143, 144, 145, 146, 147, 148, 149, 150, 151, 152, 153, 154, 155, 156, 157, 158, 159, 160, 161, 162, 163, 164, 165, 166, 167, 168, 169, 170, 171, 172, 175, 176, 177, 178, 179, 180, 181, 182, 183, 184, 185, 186, 187, 188] (by decide +kernel) (by decide +kernel)
set_option maxRecDepth 20000 in
theorem gX8_stepGate_X8_letThrough : GoodIn wsX8_stepGate (wsV RX8 176 RX8 yX8_letThrough wsX8_letThrough) := goodIn_app (goodIn_of _ (by decide +kernel)) ggX8_stepGate_X8_letThrough
set_option maxRecDepth 20000 in
theorem ggX8_stepGate_X1_turnTo : GoodIn wsX8_stepGate wsX1_turnTo := goodIn_r _ [107, 108, 109, 140, 141, 142, 143, 144, 145, 146, 147, 148, 149, 150, 151, 152, 153, 154] (by decide +kernel) (by decide +kernel)
set_option maxRecDepth 20000 in
theorem gX8_stepGate_X1_turnTo : GoodIn wsX8_stepGate (wsV RX8 180 RX1 yX1_turnTo wsX1_turnTo) := goodIn_app (goodIn_of _ (by decide +kernel)) ggX8_stepGate_X1_turnTo
set_option maxRecDepth 20000 in
theorem ggX8_stepGate_X8_extraTicks : GoodIn wsX8_stepGate wsX8_extraTicks := goodIn_r _ [138, 139, 34, 35, 36, 9, 37, 38, 39, 155, 156, 157, 158, 159, 160, 161, 162, 163, 164, 165, 166, 167, 168, 169, 170, 171, 172] (by decide +kernel) (by decide +kernel)
set_option maxRecDepth 20000 in
theorem gX8_stepGate_X8_extraTicks : GoodIn wsX8_stepGate (wsV RX8 212 RX8 yX8_extraTicks wsX8_extraTicks) := goodIn_app (goodIn_of _ (by decide +kernel)) ggX8_stepGate_X8_extraTicks
theorem dX8_stepGate_0 : decode cX8_stepGate 0 = .ok (.aload_n 2, 1) := by decide +kernel
theorem dX8_stepGate_1 : decode cX8_stepGate 1 = .ok (.getfield 163, 3) := by decide +kernel
theorem dX8_stepGate_4 : decode cX8_stepGate 4 = .ok (.ifCond .ne 11, 3) := by decide +kernel
theorem dX8_stepGate_7 : decode cX8_stepGate 7 = .ok (.aload_n 0, 1) := by decide +kernel
theorem dX8_stepGate_8 : decode cX8_stepGate 8 = .ok (.iload_n 1, 1) := by decide +kernel
theorem dX8_stepGate_9 : decode cX8_stepGate 9 = .ok (.aload_n 2, 1) := by decide +kernel
theorem dX8_stepGate_10 : decode cX8_stepGate 10 = .ok (.invokevirtual 193, 3) := by decide +kernel
theorem dX8_stepGate_13 : decode cX8_stepGate 13 = .ok (.iconst 0, 1) := by decide +kernel
theorem dX8_stepGate_14 : decode cX8_stepGate 14 = .ok (.ireturn, 1) := by decide +kernel
theorem dX8_stepGate_15 : decode cX8_stepGate 15 = .ok (.aload_n 2, 1) := by decide +kernel
theorem dX8_stepGate_16 : decode cX8_stepGate 16 = .ok (.getfield 163, 3) := by decide +kernel
theorem dX8_stepGate_19 : decode cX8_stepGate 19 = .ok (.iconst 5, 1) := by decide +kernel
theorem dX8_stepGate_20 : decode cX8_stepGate 20 = .ok (.if_icmp .ne 5, 3) := by decide +kernel
theorem dX8_stepGate_23 : decode cX8_stepGate 23 = .ok (.iconst 0, 1) := by decide +kernel
theorem dX8_stepGate_24 : decode cX8_stepGate 24 = .ok (.ireturn, 1) := by decide +kernel
theorem dX8_stepGate_25 : decode cX8_stepGate 25 = .ok (.aload_n 2, 1) := by decide +kernel
theorem dX8_stepGate_26 : decode cX8_stepGate 26 = .ok (.dup, 1) := by decide +kernel
theorem dX8_stepGate_27 : decode cX8_stepGate 27 = .ok (.getfield 196, 3) := by decide +kernel
theorem dX8_stepGate_30 : decode cX8_stepGate 30 = .ok (.iconst 1, 1) := by decide +kernel
theorem dX8_stepGate_31 : decode cX8_stepGate 31 = .ok (.isub, 1) := by decide +kernel
theorem dX8_stepGate_32 : decode cX8_stepGate 32 = .ok (.putfield 196, 3) := by decide +kernel
theorem dX8_stepGate_35 : decode cX8_stepGate 35 = .ok (.aload_n 2, 1) := by decide +kernel
theorem dX8_stepGate_36 : decode cX8_stepGate 36 = .ok (.getfield 163, 3) := by decide +kernel
theorem dX8_stepGate_39 : decode cX8_stepGate 39 = .ok (.iconst 3, 1) := by decide +kernel
theorem dX8_stepGate_40 : decode cX8_stepGate 40 = .ok (.if_icmp .ne 27, 3) := by decide +kernel
theorem dX8_stepGate_43 : decode cX8_stepGate 43 = .ok (.aload_n 0, 1) := by decide +kernel
theorem dX8_stepGate_44 : decode cX8_stepGate 44 = .ok (.iload_n 1, 1) := by decide +kernel
theorem dX8_stepGate_45 : decode cX8_stepGate 45 = .ok (.aload_n 2, 1) := by decide +kernel
theorem dX8_stepGate_46 : decode cX8_stepGate 46 = .ok (.invokevirtual 199, 3) := by decide +kernel
theorem dX8_stepGate_49 : decode cX8_stepGate 49 = .ok (.aload_n 2, 1) := by decide +kernel
theorem dX8_stepGate_50 : decode cX8_stepGate 50 = .ok (.invokevirtual 202, 3) := by decide +kernel
theorem dX8_stepGate_53 : decode cX8_stepGate 53 = .ok (.ifCond .eq 7, 3) := by decide +kernel
theorem dX8_stepGate_56 : decode cX8_stepGate 56 = .ok (.iconst 0, 1) := by decide +kernel
theorem dX8_stepGate_57 : decode cX8_stepGate 57 = .ok (.goto 9, 3) := by decide +kernel
theorem dX8_stepGate_60 : decode cX8_stepGate 60 = .ok (.aload_n 0, 1) := by decide +kernel
theorem dX8_stepGate_61 : decode cX8_stepGate 61 = .ok (.iload_n 1, 1) := by decide +kernel
theorem dX8_stepGate_62 : decode cX8_stepGate 62 = .ok (.aload_n 2, 1) := by decide +kernel
theorem dX8_stepGate_63 : decode cX8_stepGate 63 = .ok (.invokevirtual 176, 3) := by decide +kernel
theorem dX8_stepGate_66 : decode cX8_stepGate 66 = .ok (.ireturn, 1) := by decide +kernel
theorem dX8_stepGate_67 : decode cX8_stepGate 67 = .ok (.aload_n 2, 1) := by decide +kernel
theorem dX8_stepGate_68 : decode cX8_stepGate 68 = .ok (.getfield 196, 3) := by decide +kernel
theorem dX8_stepGate_71 : decode cX8_stepGate 71 = .ok (.ifCond .ne 41, 3) := by decide +kernel
theorem dX8_stepGate_74 : decode cX8_stepGate 74 = .ok (.aload_n 2, 1) := by decide +kernel
theorem dX8_stepGate_75 : decode cX8_stepGate 75 = .ok (.getfield 163, 3) := by decide +kernel
theorem dX8_stepGate_78 : decode cX8_stepGate 78 = .ok (.iconst 2, 1) := by decide +kernel
theorem dX8_stepGate_79 : decode cX8_stepGate 79 = .ok (.if_icmp .ne 15, 3) := by decide +kernel
theorem dX8_stepGate_82 : decode cX8_stepGate 82 = .ok (.aload_n 2, 1) := by decide +kernel
theorem dX8_stepGate_83 : decode cX8_stepGate 83 = .ok (.iconst 3, 1) := by decide +kernel
theorem dX8_stepGate_84 : decode cX8_stepGate 84 = .ok (.aload_n 2, 1) := by decide +kernel
theorem dX8_stepGate_85 : decode cX8_stepGate 85 = .ok (.getfield 206, 3) := by decide +kernel
theorem dX8_stepGate_88 : decode cX8_stepGate 88 = .ok (.invokevirtual 180, 3) := by decide +kernel
theorem dX8_stepGate_91 : decode cX8_stepGate 91 = .ok (.goto 21, 3) := by decide +kernel
theorem dX8_stepGate_94 : decode cX8_stepGate 94 = .ok (.aload_n 2, 1) := by decide +kernel
theorem dX8_stepGate_95 : decode cX8_stepGate 95 = .ok (.iconst 2, 1) := by decide +kernel
theorem dX8_stepGate_96 : decode cX8_stepGate 96 = .ok (.aload_n 2, 1) := by decide +kernel
theorem dX8_stepGate_97 : decode cX8_stepGate 97 = .ok (.getfield 209, 3) := by decide +kernel
theorem dX8_stepGate_100 : decode cX8_stepGate 100 = .ok (.aload_n 0, 1) := by decide +kernel
theorem dX8_stepGate_101 : decode cX8_stepGate 101 = .ok (.aload_n 2, 1) := by decide +kernel
theorem dX8_stepGate_102 : decode cX8_stepGate 102 = .ok (.getfield 169, 3) := by decide +kernel
theorem dX8_stepGate_105 : decode cX8_stepGate 105 = .ok (.invokevirtual 212, 3) := by decide +kernel
theorem dX8_stepGate_108 : decode cX8_stepGate 108 = .ok (.iadd, 1) := by decide +kernel
theorem dX8_stepGate_109 : decode cX8_stepGate 109 = .ok (.invokevirtual 180, 3) := by decide +kernel
theorem dX8_stepGate_112 : decode cX8_stepGate 112 = .ok (.iconst 0, 1) := by decide +kernel
theorem dX8_stepGate_113 : decode cX8_stepGate 113 = .ok (.ireturn, 1) := by decide +kernel
set_option maxRecDepth 20000 in
theorem ggX8_extraTicks_X8_personAt : GoodIn wsX8_extraTicks wsX8_personAt := goodIn_r _ [6, 7, 8, 16, 17, 18, 19, 20, 21, 22, 23, 24, 25, 26] (by decide +kernel) (by decide +kernel)
set_option maxRecDepth 20000 in
theorem gX8_extraTicks_X8_personAt : GoodIn wsX8_extraTicks (wsV RX8 135 RX8 yX8_personAt wsX8_personAt) := goodIn_app (goodIn_of _ (by decide +kernel)) ggX8_extraTicks_X8_personAt
theorem dX8_extraTicks_0 : decode cX8_extraTicks 0 = .ok (.aload_n 0, 1) := by decide +kernel
theorem dX8_extraTicks_1 : decode cX8_extraTicks 1 = .ok (.iload_n 1, 1) := by decide +kernel
theorem dX8_extraTicks_2 : decode cX8_extraTicks 2 = .ok (.invokevirtual 135, 3) := by decide +kernel
theorem dX8_extraTicks_5 : decode cX8_extraTicks 5 = .ok (.astore_n 2, 1) := by decide +kernel
theorem dX8_extraTicks_6 : decode cX8_extraTicks 6 = .ok (.aload_n 2, 1) := by decide +kernel
theorem dX8_extraTicks_7 : decode cX8_extraTicks 7 = .ok (.ifnull 14, 3) := by decide +kernel
theorem dX8_extraTicks_10 : decode cX8_extraTicks 10 = .ok (.aload_n 2, 1) := by decide +kernel
theorem dX8_extraTicks_11 : decode cX8_extraTicks 11 = .ok (.getfield 215, 3) := by decide +kernel
theorem dX8_extraTicks_14 : decode cX8_extraTicks 14 = .ok (.ifCond .eq 7, 3) := by decide +kernel
theorem dX8_extraTicks_17 : decode cX8_extraTicks 17 = .ok (.iconst 2, 1) := by decide +kernel
theorem dX8_extraTicks_18 : decode cX8_extraTicks 18 = .ok (.goto 4, 3) := by decide +kernel
theorem dX8_extraTicks_21 : decode cX8_extraTicks 21 = .ok (.iconst 0, 1) := by decide +kernel
theorem dX8_extraTicks_22 : decode cX8_extraTicks 22 = .ok (.ireturn, 1) := by decide +kernel
set_option maxRecDepth 20000 in
theorem ggX8_stepClosing_X0_add : GoodIn wsX8_stepClosing wsX0_add := goodIn_r _ [13, 14, 15, 16, 17, 18, 19, 20, 21, 22, 23, 24, 25, 26, 27, 66, 67, 68, 69, 70, 71] (by decide +kernel) (by decide +kernel)
set_option maxRecDepth 20000 in
theorem gX8_stepClosing_X0_add : GoodIn wsX8_stepClosing (wsV RX8 184 RX0 yX0_add wsX0_add) := goodIn_app (goodIn_of _ (by decide +kernel)) ggX8_stepClosing_X0_add
set_option maxRecDepth 20000 in
theorem ggX8_stepClosing_X8_breakDown : GoodIn wsX8_stepClosing wsX8_breakDown := goodIn_r _ [32, 1, 4, 5, 33, 34, 35, 36, 37, 38, 39, 9, 10, 11, 12, 13, 14, 15, 16, 17, 18, 19, 20, 21, 22, 23, 24, 25, 26, 27, 40, 41, 42, 43, 44, 45, 46, 47, 48, 49, 50, 51, 52, 53, 54, 55, 56, 57, 58, 59, 60, 61, 62, 63, 64, 65, 66, 67, 68, 69, 70, 71] (by decide +kernel) (by decide +kernel)
set_option maxRecDepth 20000 in
theorem gX8_stepClosing_X8_breakDown : GoodIn wsX8_stepClosing (wsV RX8 172 RX8 yX8_breakDown wsX8_breakDown) := goodIn_app (goodIn_of _ (by decide +kernel)) ggX8_stepClosing_X8_breakDown
set_option maxRecDepth 20000 in
theorem ggX8_stepClosing_X1_turnTo : GoodIn wsX8_stepClosing wsX1_turnTo := goodIn_r _ [37, 38, 39, 40, 41, 42, 43, 44, 45, 46, 47, 48, 49, 50, 51, 52, 53, 54] (by decide +kernel) (by decide +kernel)
set_option maxRecDepth 20000 in
theorem gX8_stepClosing_X1_turnTo : GoodIn wsX8_stepClosing (wsV RX8 180 RX1 yX1_turnTo wsX1_turnTo) := goodIn_app (goodIn_of _ (by decide +kernel)) ggX8_stepClosing_X1_turnTo
theorem dX8_stepClosing_0 : decode cX8_stepClosing 0 = .ok (.aload_n 2, 1) := by decide +kernel
theorem dX8_stepClosing_1 : decode cX8_stepClosing 1 = .ok (.getfield 166, 3) := by decide +kernel
theorem dX8_stepClosing_4 : decode cX8_stepClosing 4 = .ok (.ifCond .eq 79, 3) := by decide +kernel
theorem dX8_stepClosing_7 : decode cX8_stepClosing 7 = .ok (.aload_n 2, 1) := by decide +kernel
theorem dX8_stepClosing_8 : decode cX8_stepClosing 8 = .ok (.iconst 0, 1) := by decide +kernel
theorem dX8_stepClosing_9 : decode cX8_stepClosing 9 = .ok (.putfield 166, 3) := by decide +kernel
theorem dX8_stepClosing_12 : decode cX8_stepClosing 12 = .ok (.aload_n 2, 1) := by decide +kernel
theorem dX8_stepClosing_13 : decode cX8_stepClosing 13 = .ok (.dup, 1) := by decide +kernel
theorem dX8_stepClosing_14 : decode cX8_stepClosing 14 = .ok (.getfield 218, 3) := by decide +kernel
theorem dX8_stepClosing_17 : decode cX8_stepClosing 17 = .ok (.iconst 1, 1) := by decide +kernel
theorem dX8_stepClosing_18 : decode cX8_stepClosing 18 = .ok (.iadd, 1) := by decide +kernel
theorem dX8_stepClosing_19 : decode cX8_stepClosing 19 = .ok (.putfield 218, 3) := by decide +kernel
theorem dX8_stepClosing_22 : decode cX8_stepClosing 22 = .ok (.aload_n 2, 1) := by decide +kernel
theorem dX8_stepClosing_23 : decode cX8_stepClosing 23 = .ok (.dup, 1) := by decide +kernel
theorem dX8_stepClosing_24 : decode cX8_stepClosing 24 = .ok (.getfield 221, 3) := by decide +kernel
theorem dX8_stepClosing_27 : decode cX8_stepClosing 27 = .ok (.iconst 1, 1) := by decide +kernel
theorem dX8_stepClosing_28 : decode cX8_stepClosing 28 = .ok (.iadd, 1) := by decide +kernel
theorem dX8_stepClosing_29 : decode cX8_stepClosing 29 = .ok (.putfield 221, 3) := by decide +kernel
theorem dX8_stepClosing_32 : decode cX8_stepClosing 32 = .ok (.aload_n 0, 1) := by decide +kernel
theorem dX8_stepClosing_33 : decode cX8_stepClosing 33 = .ok (.getfield 38, 3) := by decide +kernel
theorem dX8_stepClosing_36 : decode cX8_stepClosing 36 = .ok (.aload_n 0, 1) := by decide +kernel
theorem dX8_stepClosing_37 : decode cX8_stepClosing 37 = .ok (.getfield 78, 3) := by decide +kernel
theorem dX8_stepClosing_40 : decode cX8_stepClosing 40 = .ok (.iload_n 1, 1) := by decide +kernel
theorem dX8_stepClosing_41 : decode cX8_stepClosing 41 = .ok (.aload_n 2, 1) := by decide +kernel
theorem dX8_stepClosing_42 : decode cX8_stepClosing 42 = .ok (.getfield 169, 3) := by decide +kernel
theorem dX8_stepClosing_45 : decode cX8_stepClosing 45 = .ok (.iconst 4, 1) := by decide +kernel
theorem dX8_stepClosing_46 : decode cX8_stepClosing 46 = .ok (.invokevirtual 184, 3) := by decide +kernel
theorem dX8_stepClosing_49 : decode cX8_stepClosing 49 = .ok (.aload_n 2, 1) := by decide +kernel
theorem dX8_stepClosing_50 : decode cX8_stepClosing 50 = .ok (.getfield 221, 3) := by decide +kernel
theorem dX8_stepClosing_53 : decode cX8_stepClosing 53 = .ok (.iconst 3, 1) := by decide +kernel
theorem dX8_stepClosing_54 : decode cX8_stepClosing 54 = .ok (.if_icmp .lt 12, 3) := by decide +kernel
theorem dX8_stepClosing_57 : decode cX8_stepClosing 57 = .ok (.aload_n 0, 1) := by decide +kernel
theorem dX8_stepClosing_58 : decode cX8_stepClosing 58 = .ok (.iload_n 1, 1) := by decide +kernel
theorem dX8_stepClosing_59 : decode cX8_stepClosing 59 = .ok (.aload_n 2, 1) := by decide +kernel
theorem dX8_stepClosing_60 : decode cX8_stepClosing 60 = .ok (.invokevirtual 172, 3) := by decide +kernel
theorem dX8_stepClosing_63 : decode cX8_stepClosing 63 = .ok (.goto 33, 3) := by decide +kernel
theorem dX8_stepClosing_66 : decode cX8_stepClosing 66 = .ok (.aload_n 2, 1) := by decide +kernel
theorem dX8_stepClosing_67 : decode cX8_stepClosing 67 = .ok (.iconst 4, 1) := by decide +kernel
theorem dX8_stepClosing_68 : decode cX8_stepClosing 68 = .ok (.aload_n 2, 1) := by decide +kernel
theorem dX8_stepClosing_69 : decode cX8_stepClosing 69 = .ok (.getfield 206, 3) := by decide +kernel
theorem dX8_stepClosing_72 : decode cX8_stepClosing 72 = .ok (.aload_n 2, 1) := by decide +kernel
theorem dX8_stepClosing_73 : decode cX8_stepClosing 73 = .ok (.getfield 196, 3) := by decide +kernel
theorem dX8_stepClosing_76 : decode cX8_stepClosing 76 = .ok (.isub, 1) := by decide +kernel
theorem dX8_stepClosing_77 : decode cX8_stepClosing 77 = .ok (.invokevirtual 180, 3) := by decide +kernel
theorem dX8_stepClosing_80 : decode cX8_stepClosing 80 = .ok (.goto 16, 3) := by decide +kernel
theorem dX8_stepClosing_83 : decode cX8_stepClosing 83 = .ok (.aload_n 2, 1) := by decide +kernel
theorem dX8_stepClosing_84 : decode cX8_stepClosing 84 = .ok (.getfield 196, 3) := by decide +kernel
theorem dX8_stepClosing_87 : decode cX8_stepClosing 87 = .ok (.ifCond .ne 9, 3) := by decide +kernel
theorem dX8_stepClosing_90 : decode cX8_stepClosing 90 = .ok (.aload_n 2, 1) := by decide +kernel
theorem dX8_stepClosing_91 : decode cX8_stepClosing 91 = .ok (.iconst 0, 1) := by decide +kernel
theorem dX8_stepClosing_92 : decode cX8_stepClosing 92 = .ok (.iconst 0, 1) := by decide +kernel
theorem dX8_stepClosing_93 : decode cX8_stepClosing 93 = .ok (.invokevirtual 180, 3) := by decide +kernel
theorem dX8_stepClosing_96 : decode cX8_stepClosing 96 = .ok (.return_, 1) := by decide +kernel
set_option maxRecDepth 20000 in
theorem ggX8_breakDown_X1_turnTo : GoodIn wsX8_breakDown wsX1_turnTo := goodIn_r _ [8, 9, 10, 30, 31, 32, 33, 34, 35, 36, 37, 38, 39, 40, 41, 42, 43, 44] (by decide +kernel) (by decide +kernel)
set_option maxRecDepth 20000 in
theorem gX8_breakDown_X1_turnTo : GoodIn wsX8_breakDown (wsV RX8 180 RX1 yX1_turnTo wsX1_turnTo) := goodIn_app (goodIn_of _ (by decide +kernel)) ggX8_breakDown_X1_turnTo
set_option maxRecDepth 20000 in
theorem ggX8_breakDown_X0_add : GoodIn wsX8_breakDown wsX0_add := goodIn_r _ [15, 16, 17, 18, 19, 20, 21, 22, 23, 24, 25, 26, 27, 28, 29, 56, 57, 58, 59, 60, 61] (by decide +kernel) (by decide +kernel)
set_option maxRecDepth 20000 in
theorem gX8_breakDown_X0_add : GoodIn wsX8_breakDown (wsV RX8 184 RX0 yX0_add wsX0_add) := goodIn_app (goodIn_of _ (by decide +kernel)) ggX8_breakDown_X0_add
theorem dX8_breakDown_0 : decode cX8_breakDown 0 = .ok (.aload_n 2, 1) := by decide +kernel
theorem dX8_breakDown_1 : decode cX8_breakDown 1 = .ok (.iconst 5, 1) := by decide +kernel
theorem dX8_breakDown_2 : decode cX8_breakDown 2 = .ok (.iconst 0, 1) := by decide +kernel
theorem dX8_breakDown_3 : decode cX8_breakDown 3 = .ok (.invokevirtual 180, 3) := by decide +kernel
theorem dX8_breakDown_6 : decode cX8_breakDown 6 = .ok (.aload_n 2, 1) := by decide +kernel
theorem dX8_breakDown_7 : decode cX8_breakDown 7 = .ok (.iconst 0, 1) := by decide +kernel
theorem dX8_breakDown_8 : decode cX8_breakDown 8 = .ok (.putfield 166, 3) := by decide +kernel
theorem dX8_breakDown_11 : decode cX8_breakDown 11 = .ok (.aload_n 0, 1) := by decide +kernel
theorem dX8_breakDown_12 : decode cX8_breakDown 12 = .ok (.getfield 38, 3) := by decide +kernel
theorem dX8_breakDown_15 : decode cX8_breakDown 15 = .ok (.aload_n 0, 1) := by decide +kernel
theorem dX8_breakDown_16 : decode cX8_breakDown 16 = .ok (.getfield 78, 3) := by decide +kernel
theorem dX8_breakDown_19 : decode cX8_breakDown 19 = .ok (.iload_n 1, 1) := by decide +kernel
theorem dX8_breakDown_20 : decode cX8_breakDown 20 = .ok (.bipush (-5), 2) := by decide +kernel
theorem dX8_breakDown_22 : decode cX8_breakDown 22 = .ok (.iconst 5, 1) := by decide +kernel
theorem dX8_breakDown_23 : decode cX8_breakDown 23 = .ok (.invokevirtual 184, 3) := by decide +kernel
theorem dX8_breakDown_26 : decode cX8_breakDown 26 = .ok (.return_, 1) := by decide +kernel
set_option maxRecDepth 20000 in
theorem ggX8_letThrough_X8_personAt : GoodIn wsX8_letThrough wsX8_personAt := goodIn_r _ [14, 15, 16, 77, 78, 79, 80, 81, 82, 83, 84, 85, 86, 87] (by decide +kernel) (by decide +kernel)
set_option maxRecDepth 20000 in
theorem gX8_letThrough_X8_personAt : GoodIn wsX8_letThrough (wsV RX8 135 RX8 yX8_personAt wsX8_personAt) := goodIn_app (goodIn_of _ (by decide +kernel)) ggX8_letThrough_X8_personAt
set_option maxRecDepth 20000 in
theorem ggX8_letThrough_X8_passAt : GoodIn wsX8_letThrough wsX8_passAt := goodIn_r _ [20, 21, 22, 77, 78, 79, 80, 81, 82, 83, 84, 85, 86, 87] (by decide +kernel) (by decide +kernel)
set_option maxRecDepth 20000 in
theorem gX8_letThrough_X8_passAt : GoodIn wsX8_letThrough (wsV RX8 111 RX8 yX8_passAt wsX8_passAt) := goodIn_app (goodIn_of _ (by decide +kernel)) ggX8_letThrough_X8_passAt
set_option maxRecDepth 20000 in
theorem ggX8_letThrough_X8_freePass : GoodIn wsX8_letThrough wsX8_freePass := goodIn_r _ [26, 27, 28, 29, 30, 31, 32, 13, 33, 34, 35, 88, 89, 90, 91, 92, 93, 94, 95, 77, 78, 79, 80, 81, 82, 83, 84, 85, 86, 87] (by decide +kernel) (by decide +kernel)
set_option maxRecDepth 20000 in
theorem gX8_letThrough_X8_freePass : GoodIn wsX8_letThrough (wsV RX8 233 RX8 yX8_freePass wsX8_freePass) := goodIn_app (goodIn_of _ (by decide +kernel)) ggX8_letThrough_X8_freePass
set_option maxRecDepth 20000 in
theorem ggX8_letThrough_X0_add : GoodIn wsX8_letThrough wsX0_add := goodIn_r _ [40, 41, 42, 43, 44, 45, 46, 47, 48, 49, 50, 51, 52, 53, 54, 96, 97, 98, 99, 100, 101] (by decide +kernel) (by decide +kernel)
set_option maxRecDepth 20000 in
theorem gX8_letThrough_X0_add : GoodIn wsX8_letThrough (wsV RX8 184 RX0 yX0_add wsX0_add) := goodIn_app (goodIn_of _ (by decide +kernel)) ggX8_letThrough_X0_add
theorem dX8_letThrough_0 : decode cX8_letThrough 0 = .ok (.aload_n 2, 1) := by decide +kernel
theorem dX8_letThrough_1 : decode cX8_letThrough 1 = .ok (.getfield 169, 3) := by decide +kernel
theorem dX8_letThrough_4 : decode cX8_letThrough 4 = .ok (.istore_n 3, 1) := by decide +kernel
theorem dX8_letThrough_5 : decode cX8_letThrough 5 = .ok (.aload_n 0, 1) := by decide +kernel
theorem dX8_letThrough_6 : decode cX8_letThrough 6 = .ok (.iload_n 3, 1) := by decide +kernel
theorem dX8_letThrough_7 : decode cX8_letThrough 7 = .ok (.invokevirtual 135, 3) := by decide +kernel
theorem dX8_letThrough_10 : decode cX8_letThrough 10 = .ok (.astore 4, 2) := by decide +kernel
theorem dX8_letThrough_12 : decode cX8_letThrough 12 = .ok (.aload 4, 2) := by decide +kernel
theorem dX8_letThrough_14 : decode cX8_letThrough 14 = .ok (.ifnonnull 5, 3) := by decide +kernel
theorem dX8_letThrough_17 : decode cX8_letThrough 17 = .ok (.iconst 0, 1) := by decide +kernel
theorem dX8_letThrough_18 : decode cX8_letThrough 18 = .ok (.ireturn, 1) := by decide +kernel
theorem dX8_letThrough_19 : decode cX8_letThrough 19 = .ok (.aload_n 2, 1) := by decide +kernel
theorem dX8_letThrough_20 : decode cX8_letThrough 20 = .ok (.bipush (-5), 2) := by decide +kernel
theorem dX8_letThrough_22 : decode cX8_letThrough 22 = .ok (.putfield 169, 3) := by decide +kernel
theorem dX8_letThrough_25 : decode cX8_letThrough 25 = .ok (.aload 4, 2) := by decide +kernel
theorem dX8_letThrough_27 : decode cX8_letThrough 27 = .ok (.bipush (-5), 2) := by decide +kernel
theorem dX8_letThrough_29 : decode cX8_letThrough 29 = .ok (.putfield 160, 3) := by decide +kernel
theorem dX8_letThrough_32 : decode cX8_letThrough 32 = .ok (.aload 4, 2) := by decide +kernel
theorem dX8_letThrough_34 : decode cX8_letThrough 34 = .ok (.getfield 224, 3) := by decide +kernel
theorem dX8_letThrough_37 : decode cX8_letThrough 37 = .ok (.ifCond .eq 49, 3) := by decide +kernel
theorem dX8_letThrough_40 : decode cX8_letThrough 40 = .ok (.aload_n 2, 1) := by decide +kernel
theorem dX8_letThrough_41 : decode cX8_letThrough 41 = .ok (.dup, 1) := by decide +kernel
theorem dX8_letThrough_42 : decode cX8_letThrough 42 = .ok (.getfield 227, 3) := by decide +kernel
theorem dX8_letThrough_45 : decode cX8_letThrough 45 = .ok (.iconst 1, 1) := by decide +kernel
theorem dX8_letThrough_46 : decode cX8_letThrough 46 = .ok (.iadd, 1) := by decide +kernel
theorem dX8_letThrough_47 : decode cX8_letThrough 47 = .ok (.putfield 227, 3) := by decide +kernel
theorem dX8_letThrough_50 : decode cX8_letThrough 50 = .ok (.aload 4, 2) := by decide +kernel
theorem dX8_letThrough_52 : decode cX8_letThrough 52 = .ok (.iconst 5, 1) := by decide +kernel
theorem dX8_letThrough_53 : decode cX8_letThrough 53 = .ok (.putfield 139, 3) := by decide +kernel
theorem dX8_letThrough_56 : decode cX8_letThrough 56 = .ok (.aload_n 0, 1) := by decide +kernel
theorem dX8_letThrough_57 : decode cX8_letThrough 57 = .ok (.aload_n 0, 1) := by decide +kernel
theorem dX8_letThrough_58 : decode cX8_letThrough 58 = .ok (.aload 4, 2) := by decide +kernel
theorem dX8_letThrough_60 : decode cX8_letThrough 60 = .ok (.getfield 230, 3) := by decide +kernel
theorem dX8_letThrough_63 : decode cX8_letThrough 63 = .ok (.invokevirtual 111, 3) := by decide +kernel
theorem dX8_letThrough_66 : decode cX8_letThrough 66 = .ok (.invokevirtual 233, 3) := by decide +kernel
theorem dX8_letThrough_69 : decode cX8_letThrough 69 = .ok (.aload_n 0, 1) := by decide +kernel
theorem dX8_letThrough_70 : decode cX8_letThrough 70 = .ok (.getfield 38, 3) := by decide +kernel
theorem dX8_letThrough_73 : decode cX8_letThrough 73 = .ok (.aload_n 0, 1) := by decide +kernel
theorem dX8_letThrough_74 : decode cX8_letThrough 74 = .ok (.getfield 78, 3) := by decide +kernel
theorem dX8_letThrough_77 : decode cX8_letThrough 77 = .ok (.iload_n 1, 1) := by decide +kernel
theorem dX8_letThrough_78 : decode cX8_letThrough 78 = .ok (.iload_n 3, 1) := by decide +kernel
theorem dX8_letThrough_79 : decode cX8_letThrough 79 = .ok (.iconst 3, 1) := by decide +kernel
theorem dX8_letThrough_80 : decode cX8_letThrough 80 = .ok (.invokevirtual 184, 3) := by decide +kernel
theorem dX8_letThrough_83 : decode cX8_letThrough 83 = .ok (.goto 33, 3) := by decide +kernel
theorem dX8_letThrough_86 : decode cX8_letThrough 86 = .ok (.aload_n 2, 1) := by decide +kernel
theorem dX8_letThrough_87 : decode cX8_letThrough 87 = .ok (.dup, 1) := by decide +kernel
theorem dX8_letThrough_88 : decode cX8_letThrough 88 = .ok (.getfield 236, 3) := by decide +kernel
theorem dX8_letThrough_91 : decode cX8_letThrough 91 = .ok (.iconst 1, 1) := by decide +kernel
theorem dX8_letThrough_92 : decode cX8_letThrough 92 = .ok (.iadd, 1) := by decide +kernel
theorem dX8_letThrough_93 : decode cX8_letThrough 93 = .ok (.putfield 236, 3) := by decide +kernel
theorem dX8_letThrough_96 : decode cX8_letThrough 96 = .ok (.aload 4, 2) := by decide +kernel
theorem dX8_letThrough_98 : decode cX8_letThrough 98 = .ok (.iconst 3, 1) := by decide +kernel
theorem dX8_letThrough_99 : decode cX8_letThrough 99 = .ok (.putfield 139, 3) := by decide +kernel
theorem dX8_letThrough_102 : decode cX8_letThrough 102 = .ok (.aload_n 0, 1) := by decide +kernel
theorem dX8_letThrough_103 : decode cX8_letThrough 103 = .ok (.getfield 38, 3) := by decide +kernel
theorem dX8_letThrough_106 : decode cX8_letThrough 106 = .ok (.aload_n 0, 1) := by decide +kernel
theorem dX8_letThrough_107 : decode cX8_letThrough 107 = .ok (.getfield 78, 3) := by decide +kernel
theorem dX8_letThrough_110 : decode cX8_letThrough 110 = .ok (.iload_n 1, 1) := by decide +kernel
theorem dX8_letThrough_111 : decode cX8_letThrough 111 = .ok (.iload_n 3, 1) := by decide +kernel
theorem dX8_letThrough_112 : decode cX8_letThrough 112 = .ok (.iconst 2, 1) := by decide +kernel
theorem dX8_letThrough_113 : decode cX8_letThrough 113 = .ok (.invokevirtual 184, 3) := by decide +kernel
theorem dX8_letThrough_116 : decode cX8_letThrough 116 = .ok (.iconst 1, 1) := by decide +kernel
theorem dX8_letThrough_117 : decode cX8_letThrough 117 = .ok (.ireturn, 1) := by decide +kernel
set_option maxRecDepth 20000 in
theorem ggX8_freePass_X8_poolAt : GoodIn wsX8_freePass wsX8_poolAt := goodIn_r _ [8, 9, 10, 19, 20, 21, 22, 23, 24, 25, 26, 27, 28, 29] (by decide +kernel) (by decide +kernel)
set_option maxRecDepth 20000 in
theorem gX8_freePass_X8_poolAt : GoodIn wsX8_freePass (wsV RX8 99 RX8 yX8_poolAt wsX8_poolAt) := goodIn_app (goodIn_of _ (by decide +kernel)) ggX8_freePass_X8_poolAt
theorem dX8_freePass_0 : decode cX8_freePass 0 = .ok (.aload_n 1, 1) := by decide +kernel
theorem dX8_freePass_1 : decode cX8_freePass 1 = .ok (.ifnonnull 4, 3) := by decide +kernel
theorem dX8_freePass_4 : decode cX8_freePass 4 = .ok (.return_, 1) := by decide +kernel
theorem dX8_freePass_5 : decode cX8_freePass 5 = .ok (.aload_n 1, 1) := by decide +kernel
theorem dX8_freePass_6 : decode cX8_freePass 6 = .ok (.bipush (-5), 2) := by decide +kernel
theorem dX8_freePass_8 : decode cX8_freePass 8 = .ok (.putfield 239, 3) := by decide +kernel
theorem dX8_freePass_11 : decode cX8_freePass 11 = .ok (.aload_n 0, 1) := by decide +kernel
theorem dX8_freePass_12 : decode cX8_freePass 12 = .ok (.aload_n 1, 1) := by decide +kernel
theorem dX8_freePass_13 : decode cX8_freePass 13 = .ok (.getfield 242, 3) := by decide +kernel
theorem dX8_freePass_16 : decode cX8_freePass 16 = .ok (.invokevirtual 99, 3) := by decide +kernel
theorem dX8_freePass_19 : decode cX8_freePass 19 = .ok (.astore_n 2, 1) := by decide +kernel
theorem dX8_freePass_20 : decode cX8_freePass 20 = .ok (.aload_n 2, 1) := by decide +kernel
theorem dX8_freePass_21 : decode cX8_freePass 21 = .ok (.ifnull 13, 3) := by decide +kernel
theorem dX8_freePass_24 : decode cX8_freePass 24 = .ok (.aload_n 2, 1) := by decide +kernel
theorem dX8_freePass_25 : decode cX8_freePass 25 = .ok (.dup, 1) := by decide +kernel
theorem dX8_freePass_26 : decode cX8_freePass 26 = .ok (.getfield 245, 3) := by decide +kernel
theorem dX8_freePass_29 : decode cX8_freePass 29 = .ok (.iconst 1, 1) := by decide +kernel
theorem dX8_freePass_30 : decode cX8_freePass 30 = .ok (.isub, 1) := by decide +kernel
theorem dX8_freePass_31 : decode cX8_freePass 31 = .ok (.putfield 245, 3) := by decide +kernel
theorem dX8_freePass_34 : decode cX8_freePass 34 = .ok (.return_, 1) := by decide +kernel
set_option maxRecDepth 20000 in
theorem ggX8_takeNext_X8_nextQueue : GoodIn wsX8_takeNext wsX8_nextQueue := goodIn_r _ [14, 15, 16, 17, 18, 19, 20, 21, 22, 23, 24, 25, 26, 27, 28, 13, 29, 30, 31, 109, 110, 111, 112, 113, 114, 115, 116, 117, 118, 119, 120, 121, 122, 123, 102, 103, 104, 105, 106, 107, 108, 135, 136, 124, 125, 126, 127, 128, 129, 130, 131, 132, 133, 134] (by decide +kernel) (by decide +kernel)
set_option maxRecDepth 20000 in
theorem gX8_takeNext_X8_nextQueue : GoodIn wsX8_takeNext (wsV RX8 248 RX8 yX8_nextQueue wsX8_nextQueue) := goodIn_app (goodIn_of _ (by decide +kernel)) ggX8_takeNext_X8_nextQueue
set_option maxRecDepth 20000 in
theorem ggX8_takeNext_X7_personAtPlace : GoodIn wsX8_takeNext wsX7_personAtPlace := goodIn_r _ [23, 24, 25, 135, 136] (by decide +kernel) (by decide +kernel)
set_option maxRecDepth 20000 in
theorem gX8_takeNext_X7_personAtPlace : GoodIn wsX8_takeNext (wsV RX8 156 RX7 yX7_personAtPlace wsX7_personAtPlace) := goodIn_app (goodIn_of _ (by decide +kernel)) ggX8_takeNext_X7_personAtPlace
set_option maxRecDepth 20000 in
theorem ggX8_takeNext_X8_personAt : GoodIn wsX8_takeNext wsX8_personAt := goodIn_r _ [29, 30, 31, 124, 125, 126, 127, 128, 129, 130, 131, 132, 133, 134] (by decide +kernel) (by decide +kernel)
set_option maxRecDepth 20000 in
theorem gX8_takeNext_X8_personAt : GoodIn wsX8_takeNext (wsV RX8 135 RX8 yX8_personAt wsX8_personAt) := goodIn_app (goodIn_of _ (by decide +kernel)) ggX8_takeNext_X8_personAt
set_option maxRecDepth 20000 in
theorem ggX8_takeNext_X7_dropFirst : GoodIn wsX8_takeNext wsX7_dropFirst := goodIn_r _ [35, 24, 25, 36, 37, 38, 39, 135, 136] (by decide +kernel) (by decide +kernel)
set_option maxRecDepth 20000 in
theorem gX8_takeNext_X7_dropFirst : GoodIn wsX8_takeNext (wsV RX8 252 RX7 yX7_dropFirst wsX7_dropFirst) := goodIn_app (goodIn_of _ (by decide +kernel)) ggX8_takeNext_X7_dropFirst
set_option maxRecDepth 20000 in
theorem ggX8_takeNext_X8_reasonToRefuse : GoodIn wsX8_takeNext wsX8_reasonToRefuse := goodIn_r _ [43, 5, 44, 45, 46, 47, 48, 49, 50, 51, 52, 53, 13, 54, 55, 56, 57, 58, 59, 60, 61, 62, 102, 103, 104, 105, 106, 107, 108, 137, 138, 139, 140, 141, 142, 143, 144, 124, 125, 126, 127, 128, 129, 130, 131, 132, 133, 134] (by decide +kernel) (by decide +kernel)
set_option maxRecDepth 20000 in
theorem gX8_takeNext_X8_reasonToRefuse : GoodIn wsX8_takeNext (wsV RX8 255 RX8 yX8_reasonToRefuse wsX8_reasonToRefuse) := goodIn_app (goodIn_of _ (by decide +kernel)) ggX8_takeNext_X8_reasonToRefuse
set_option maxRecDepth 20000 in
theorem ggX8_takeNext_X5_turnAway : GoodIn wsX8_takeNext wsX5_turnAway := goodIn_r _ [67, 68, 69, 70, 102, 103, 104, 105, 106, 107, 108] (by decide +kernel) (by decide +kernel)
set_option maxRecDepth 20000 in
theorem gX8_takeNext_X5_turnAway : GoodIn wsX8_takeNext (wsV RX8 262 RX5 yX5_turnAway wsX5_turnAway) := goodIn_app (goodIn_of _ (by decide +kernel)) ggX8_takeNext_X5_turnAway
set_option maxRecDepth 20000 in
theorem ggX8_takeNext_X0_add : GoodIn wsX8_takeNext wsX0_add := goodIn_r _ [75, 76, 77, 78, 79, 80, 81, 82, 83, 84, 85, 86, 87, 88, 89, 145, 146, 147, 148, 149, 150] (by decide +kernel) (by decide +kernel)
set_option maxRecDepth 20000 in
theorem gX8_takeNext_X0_add : GoodIn wsX8_takeNext (wsV RX8 184 RX0 yX0_add wsX0_add) := goodIn_app (goodIn_of _ (by decide +kernel)) ggX8_takeNext_X0_add
set_option maxRecDepth 20000 in
theorem ggX8_takeNext_X8_passAt : GoodIn wsX8_takeNext wsX8_passAt := goodIn_r _ [54, 55, 56, 124, 125, 126, 127, 128, 129, 130, 131, 132, 133, 134] (by decide +kernel) (by decide +kernel)
set_option maxRecDepth 20000 in
theorem gX8_takeNext_X8_passAt : GoodIn wsX8_takeNext (wsV RX8 111 RX8 yX8_passAt wsX8_passAt) := goodIn_app (goodIn_of _ (by decide +kernel)) ggX8_takeNext_X8_passAt
set_option maxRecDepth 20000 in
theorem ggX8_takeNext_X8_payFare : GoodIn wsX8_takeNext wsX8_payFare := goodIn_r _ [93, 44, 46, 47, 49, 50, 94, 57, 58, 59, 13, 60, 61, 62, 137, 138, 139, 140, 141, 142, 143, 144, 124, 125, 126, 127, 128, 129, 130, 131, 132, 133, 134] (by decide +kernel) (by decide +kernel)
set_option maxRecDepth 20000 in
theorem gX8_takeNext_X8_payFare : GoodIn wsX8_takeNext (wsV RX8 265 RX8 yX8_payFare wsX8_payFare) := goodIn_app (goodIn_of _ (by decide +kernel)) ggX8_takeNext_X8_payFare
set_option maxRecDepth 20000 in
theorem ggX8_takeNext_X1_turnTo : GoodIn wsX8_takeNext wsX1_turnTo := goodIn_r _ [99, 100, 101, 109, 110, 111, 112, 113, 114, 115, 116, 117, 118, 119, 120, 121, 122, 123] (by decide +kernel) (by decide +kernel)
set_option maxRecDepth 20000 in
theorem gX8_takeNext_X1_turnTo : GoodIn wsX8_takeNext (wsV RX8 180 RX1 yX1_turnTo wsX1_turnTo) := goodIn_app (goodIn_of _ (by decide +kernel)) ggX8_takeNext_X1_turnTo
theorem dX8_takeNext_0 : decode cX8_takeNext 0 = .ok (.aload_n 0, 1) := by decide +kernel
theorem dX8_takeNext_1 : decode cX8_takeNext 1 = .ok (.aload_n 2, 1) := by decide +kernel
theorem dX8_takeNext_2 : decode cX8_takeNext 2 = .ok (.invokevirtual 248, 3) := by decide +kernel
theorem dX8_takeNext_5 : decode cX8_takeNext 5 = .ok (.astore_n 3, 1) := by decide +kernel
theorem dX8_takeNext_6 : decode cX8_takeNext 6 = .ok (.aload_n 3, 1) := by decide +kernel
theorem dX8_takeNext_7 : decode cX8_takeNext 7 = .ok (.iconst 0, 1) := by decide +kernel
theorem dX8_takeNext_8 : decode cX8_takeNext 8 = .ok (.invokevirtual 156, 3) := by decide +kernel
theorem dX8_takeNext_11 : decode cX8_takeNext 11 = .ok (.istore 4, 2) := by decide +kernel
theorem dX8_takeNext_13 : decode cX8_takeNext 13 = .ok (.aload_n 0, 1) := by decide +kernel
theorem dX8_takeNext_14 : decode cX8_takeNext 14 = .ok (.iload 4, 2) := by decide +kernel
theorem dX8_takeNext_16 : decode cX8_takeNext 16 = .ok (.invokevirtual 135, 3) := by decide +kernel
theorem dX8_takeNext_19 : decode cX8_takeNext 19 = .ok (.astore 5, 2) := by decide +kernel
theorem dX8_takeNext_21 : decode cX8_takeNext 21 = .ok (.aload 5, 2) := by decide +kernel
theorem dX8_takeNext_23 : decode cX8_takeNext 23 = .ok (.ifnonnull 4, 3) := by decide +kernel
theorem dX8_takeNext_26 : decode cX8_takeNext 26 = .ok (.return_, 1) := by decide +kernel
theorem dX8_takeNext_27 : decode cX8_takeNext 27 = .ok (.aload_n 3, 1) := by decide +kernel
theorem dX8_takeNext_28 : decode cX8_takeNext 28 = .ok (.invokevirtual 252, 3) := by decide +kernel
theorem dX8_takeNext_31 : decode cX8_takeNext 31 = .ok (.aload 5, 2) := by decide +kernel
theorem dX8_takeNext_33 : decode cX8_takeNext 33 = .ok (.getfield 224, 3) := by decide +kernel
theorem dX8_takeNext_36 : decode cX8_takeNext 36 = .ok (.ifCond .ne 79, 3) := by decide +kernel
theorem dX8_takeNext_39 : decode cX8_takeNext 39 = .ok (.aload_n 0, 1) := by decide +kernel
theorem dX8_takeNext_40 : decode cX8_takeNext 40 = .ok (.aload 5, 2) := by decide +kernel
theorem dX8_takeNext_42 : decode cX8_takeNext 42 = .ok (.invokevirtual 255, 3) := by decide +kernel
theorem dX8_takeNext_45 : decode cX8_takeNext 45 = .ok (.istore 6, 2) := by decide +kernel
theorem dX8_takeNext_47 : decode cX8_takeNext 47 = .ok (.iload 6, 2) := by decide +kernel
theorem dX8_takeNext_49 : decode cX8_takeNext 49 = .ok (.ifCond .eq 36, 3) := by decide +kernel
theorem dX8_takeNext_52 : decode cX8_takeNext 52 = .ok (.aload_n 2, 1) := by decide +kernel
theorem dX8_takeNext_53 : decode cX8_takeNext 53 = .ok (.dup, 1) := by decide +kernel
theorem dX8_takeNext_54 : decode cX8_takeNext 54 = .ok (.getfield 259, 3) := by decide +kernel
theorem dX8_takeNext_57 : decode cX8_takeNext 57 = .ok (.iconst 1, 1) := by decide +kernel
theorem dX8_takeNext_58 : decode cX8_takeNext 58 = .ok (.iadd, 1) := by decide +kernel
theorem dX8_takeNext_59 : decode cX8_takeNext 59 = .ok (.putfield 259, 3) := by decide +kernel
theorem dX8_takeNext_62 : decode cX8_takeNext 62 = .ok (.aload 5, 2) := by decide +kernel
theorem dX8_takeNext_64 : decode cX8_takeNext 64 = .ok (.iload 6, 2) := by decide +kernel
theorem dX8_takeNext_66 : decode cX8_takeNext 66 = .ok (.invokevirtual 262, 3) := by decide +kernel
theorem dX8_takeNext_69 : decode cX8_takeNext 69 = .ok (.aload_n 0, 1) := by decide +kernel
theorem dX8_takeNext_70 : decode cX8_takeNext 70 = .ok (.getfield 38, 3) := by decide +kernel
theorem dX8_takeNext_73 : decode cX8_takeNext 73 = .ok (.aload_n 0, 1) := by decide +kernel
theorem dX8_takeNext_74 : decode cX8_takeNext 74 = .ok (.getfield 78, 3) := by decide +kernel
theorem dX8_takeNext_77 : decode cX8_takeNext 77 = .ok (.iload_n 1, 1) := by decide +kernel
theorem dX8_takeNext_78 : decode cX8_takeNext 78 = .ok (.iload 4, 2) := by decide +kernel
theorem dX8_takeNext_80 : decode cX8_takeNext 80 = .ok (.iconst 1, 1) := by decide +kernel
theorem dX8_takeNext_81 : decode cX8_takeNext 81 = .ok (.invokevirtual 184, 3) := by decide +kernel
theorem dX8_takeNext_84 : decode cX8_takeNext 84 = .ok (.return_, 1) := by decide +kernel
theorem dX8_takeNext_85 : decode cX8_takeNext 85 = .ok (.aload_n 0, 1) := by decide +kernel
theorem dX8_takeNext_86 : decode cX8_takeNext 86 = .ok (.iload 4, 2) := by decide +kernel
theorem dX8_takeNext_88 : decode cX8_takeNext 88 = .ok (.aload_n 0, 1) := by decide +kernel
theorem dX8_takeNext_89 : decode cX8_takeNext 89 = .ok (.aload 5, 2) := by decide +kernel
theorem dX8_takeNext_91 : decode cX8_takeNext 91 = .ok (.getfield 230, 3) := by decide +kernel
theorem dX8_takeNext_94 : decode cX8_takeNext 94 = .ok (.invokevirtual 111, 3) := by decide +kernel
theorem dX8_takeNext_97 : decode cX8_takeNext 97 = .ok (.invokevirtual 265, 3) := by decide +kernel
theorem dX8_takeNext_100 : decode cX8_takeNext 100 = .ok (.aload_n 0, 1) := by decide +kernel
theorem dX8_takeNext_101 : decode cX8_takeNext 101 = .ok (.getfield 38, 3) := by decide +kernel
theorem dX8_takeNext_104 : decode cX8_takeNext 104 = .ok (.aload_n 0, 1) := by decide +kernel
theorem dX8_takeNext_105 : decode cX8_takeNext 105 = .ok (.getfield 78, 3) := by decide +kernel
theorem dX8_takeNext_108 : decode cX8_takeNext 108 = .ok (.iload_n 1, 1) := by decide +kernel
theorem dX8_takeNext_109 : decode cX8_takeNext 109 = .ok (.iload 4, 2) := by decide +kernel
theorem dX8_takeNext_111 : decode cX8_takeNext 111 = .ok (.iconst 0, 1) := by decide +kernel
theorem dX8_takeNext_112 : decode cX8_takeNext 112 = .ok (.invokevirtual 184, 3) := by decide +kernel
theorem dX8_takeNext_115 : decode cX8_takeNext 115 = .ok (.aload 5, 2) := by decide +kernel
theorem dX8_takeNext_117 : decode cX8_takeNext 117 = .ok (.iconst 2, 1) := by decide +kernel
theorem dX8_takeNext_118 : decode cX8_takeNext 118 = .ok (.putfield 139, 3) := by decide +kernel
theorem dX8_takeNext_121 : decode cX8_takeNext 121 = .ok (.aload_n 2, 1) := by decide +kernel
theorem dX8_takeNext_122 : decode cX8_takeNext 122 = .ok (.iload 4, 2) := by decide +kernel
theorem dX8_takeNext_124 : decode cX8_takeNext 124 = .ok (.putfield 169, 3) := by decide +kernel
theorem dX8_takeNext_127 : decode cX8_takeNext 127 = .ok (.aload_n 2, 1) := by decide +kernel
theorem dX8_takeNext_128 : decode cX8_takeNext 128 = .ok (.iconst 0, 1) := by decide +kernel
theorem dX8_takeNext_129 : decode cX8_takeNext 129 = .ok (.putfield 221, 3) := by decide +kernel
theorem dX8_takeNext_132 : decode cX8_takeNext 132 = .ok (.aload_n 2, 1) := by decide +kernel
theorem dX8_takeNext_133 : decode cX8_takeNext 133 = .ok (.iconst 1, 1) := by decide +kernel
theorem dX8_takeNext_134 : decode cX8_takeNext 134 = .ok (.aload_n 2, 1) := by decide +kernel
theorem dX8_takeNext_135 : decode cX8_takeNext 135 = .ok (.getfield 269, 3) := by decide +kernel
theorem dX8_takeNext_138 : decode cX8_takeNext 138 = .ok (.invokevirtual 180, 3) := by decide +kernel
theorem dX8_takeNext_141 : decode cX8_takeNext 141 = .ok (.return_, 1) := by decide +kernel
set_option maxRecDepth 20000 in
theorem ggX8_nextQueue_X7_personAtPlace : GoodIn wsX8_nextQueue wsX7_personAtPlace := goodIn_r _ [9, 10, 11, 41, 42] (by decide +kernel) (by decide +kernel)
set_option maxRecDepth 20000 in
theorem gX8_nextQueue_X7_personAtPlace : GoodIn wsX8_nextQueue (wsV RX8 156 RX7 yX7_personAtPlace wsX7_personAtPlace) := goodIn_app (goodIn_of _ (by decide +kernel)) ggX8_nextQueue_X7_personAtPlace
set_option maxRecDepth 20000 in
theorem ggX8_nextQueue_X8_personAt : GoodIn wsX8_nextQueue wsX8_personAt := goodIn_r _ [16, 17, 18, 43, 44, 45, 46, 47, 48, 49, 50, 51, 52, 53] (by decide +kernel) (by decide +kernel)
set_option maxRecDepth 20000 in
theorem gX8_nextQueue_X8_personAt : GoodIn wsX8_nextQueue (wsV RX8 135 RX8 yX8_personAt wsX8_personAt) := goodIn_app (goodIn_of _ (by decide +kernel)) ggX8_nextQueue_X8_personAt
theorem dX8_nextQueue_0 : decode cX8_nextQueue 0 = .ok (.aload_n 1, 1) := by decide +kernel
theorem dX8_nextQueue_1 : decode cX8_nextQueue 1 = .ok (.getfield 93, 3) := by decide +kernel
theorem dX8_nextQueue_4 : decode cX8_nextQueue 4 = .ok (.iconst 1, 1) := by decide +kernel
theorem dX8_nextQueue_5 : decode cX8_nextQueue 5 = .ok (.if_icmp .ne 8, 3) := by decide +kernel
theorem dX8_nextQueue_8 : decode cX8_nextQueue 8 = .ok (.aload_n 1, 1) := by decide +kernel
theorem dX8_nextQueue_9 : decode cX8_nextQueue 9 = .ok (.getfield 126, 3) := by decide +kernel
theorem dX8_nextQueue_12 : decode cX8_nextQueue 12 = .ok (.areturn, 1) := by decide +kernel
theorem dX8_nextQueue_13 : decode cX8_nextQueue 13 = .ok (.aload_n 1, 1) := by decide +kernel
theorem dX8_nextQueue_14 : decode cX8_nextQueue 14 = .ok (.getfield 93, 3) := by decide +kernel
theorem dX8_nextQueue_17 : decode cX8_nextQueue 17 = .ok (.iconst 2, 1) := by decide +kernel
theorem dX8_nextQueue_18 : decode cX8_nextQueue 18 = .ok (.if_icmp .ne 8, 3) := by decide +kernel
theorem dX8_nextQueue_21 : decode cX8_nextQueue 21 = .ok (.aload_n 1, 1) := by decide +kernel
theorem dX8_nextQueue_22 : decode cX8_nextQueue 22 = .ok (.getfield 142, 3) := by decide +kernel
theorem dX8_nextQueue_25 : decode cX8_nextQueue 25 = .ok (.areturn, 1) := by decide +kernel
theorem dX8_nextQueue_26 : decode cX8_nextQueue 26 = .ok (.aload_n 0, 1) := by decide +kernel
theorem dX8_nextQueue_27 : decode cX8_nextQueue 27 = .ok (.aload_n 1, 1) := by decide +kernel
theorem dX8_nextQueue_28 : decode cX8_nextQueue 28 = .ok (.getfield 126, 3) := by decide +kernel
theorem dX8_nextQueue_31 : decode cX8_nextQueue 31 = .ok (.iconst 0, 1) := by decide +kernel
theorem dX8_nextQueue_32 : decode cX8_nextQueue 32 = .ok (.invokevirtual 156, 3) := by decide +kernel
theorem dX8_nextQueue_35 : decode cX8_nextQueue 35 = .ok (.invokevirtual 135, 3) := by decide +kernel
theorem dX8_nextQueue_38 : decode cX8_nextQueue 38 = .ok (.astore_n 2, 1) := by decide +kernel
theorem dX8_nextQueue_39 : decode cX8_nextQueue 39 = .ok (.aload_n 0, 1) := by decide +kernel
theorem dX8_nextQueue_40 : decode cX8_nextQueue 40 = .ok (.aload_n 1, 1) := by decide +kernel
theorem dX8_nextQueue_41 : decode cX8_nextQueue 41 = .ok (.getfield 142, 3) := by decide +kernel
theorem dX8_nextQueue_44 : decode cX8_nextQueue 44 = .ok (.iconst 0, 1) := by decide +kernel
theorem dX8_nextQueue_45 : decode cX8_nextQueue 45 = .ok (.invokevirtual 156, 3) := by decide +kernel
theorem dX8_nextQueue_48 : decode cX8_nextQueue 48 = .ok (.invokevirtual 135, 3) := by decide +kernel
theorem dX8_nextQueue_51 : decode cX8_nextQueue 51 = .ok (.astore_n 3, 1) := by decide +kernel
theorem dX8_nextQueue_52 : decode cX8_nextQueue 52 = .ok (.aload_n 2, 1) := by decide +kernel
theorem dX8_nextQueue_53 : decode cX8_nextQueue 53 = .ok (.ifnonnull 8, 3) := by decide +kernel
theorem dX8_nextQueue_56 : decode cX8_nextQueue 56 = .ok (.aload_n 1, 1) := by decide +kernel
theorem dX8_nextQueue_57 : decode cX8_nextQueue 57 = .ok (.getfield 142, 3) := by decide +kernel
theorem dX8_nextQueue_60 : decode cX8_nextQueue 60 = .ok (.areturn, 1) := by decide +kernel
theorem dX8_nextQueue_61 : decode cX8_nextQueue 61 = .ok (.aload_n 3, 1) := by decide +kernel
theorem dX8_nextQueue_62 : decode cX8_nextQueue 62 = .ok (.ifnull 14, 3) := by decide +kernel
theorem dX8_nextQueue_65 : decode cX8_nextQueue 65 = .ok (.aload_n 2, 1) := by decide +kernel
theorem dX8_nextQueue_66 : decode cX8_nextQueue 66 = .ok (.getfield 272, 3) := by decide +kernel
theorem dX8_nextQueue_69 : decode cX8_nextQueue 69 = .ok (.aload_n 3, 1) := by decide +kernel
theorem dX8_nextQueue_70 : decode cX8_nextQueue 70 = .ok (.getfield 272, 3) := by decide +kernel
theorem dX8_nextQueue_73 : decode cX8_nextQueue 73 = .ok (.if_icmp .ge 8, 3) := by decide +kernel
theorem dX8_nextQueue_76 : decode cX8_nextQueue 76 = .ok (.aload_n 1, 1) := by decide +kernel
theorem dX8_nextQueue_77 : decode cX8_nextQueue 77 = .ok (.getfield 126, 3) := by decide +kernel
theorem dX8_nextQueue_80 : decode cX8_nextQueue 80 = .ok (.areturn, 1) := by decide +kernel
theorem dX8_nextQueue_81 : decode cX8_nextQueue 81 = .ok (.aload_n 1, 1) := by decide +kernel
theorem dX8_nextQueue_82 : decode cX8_nextQueue 82 = .ok (.getfield 142, 3) := by decide +kernel
theorem dX8_nextQueue_85 : decode cX8_nextQueue 85 = .ok (.areturn, 1) := by decide +kernel
set_option maxRecDepth 20000 in
theorem ggX8_reasonToRefuse_X8_passAt : GoodIn wsX8_reasonToRefuse wsX8_passAt := goodIn_r _ [13, 14, 15, 37, 38, 39, 40, 41, 42, 43, 44, 45, 46, 47] (by decide +kernel) (by decide +kernel)
set_option maxRecDepth 20000 in
theorem gX8_reasonToRefuse_X8_passAt : GoodIn wsX8_reasonToRefuse (wsV RX8 111 RX8 yX8_passAt wsX8_passAt) := goodIn_app (goodIn_of _ (by decide +kernel)) ggX8_reasonToRefuse_X8_passAt
set_option maxRecDepth 20000 in
theorem ggX8_reasonToRefuse_X8_poolAt : GoodIn wsX8_reasonToRefuse wsX8_poolAt := goodIn_r _ [19, 20, 21, 37, 38, 39, 40, 41, 42, 43, 44, 45, 46, 47] (by decide +kernel) (by decide +kernel)
set_option maxRecDepth 20000 in
theorem gX8_reasonToRefuse_X8_poolAt : GoodIn wsX8_reasonToRefuse (wsV RX8 99 RX8 yX8_poolAt wsX8_poolAt) := goodIn_app (goodIn_of _ (by decide +kernel)) ggX8_reasonToRefuse_X8_poolAt
theorem dX8_reasonToRefuse_0 : decode cX8_reasonToRefuse 0 = .ok (.aload_n 0, 1) := by decide +kernel
theorem dX8_reasonToRefuse_1 : decode cX8_reasonToRefuse 1 = .ok (.aload_n 1, 1) := by decide +kernel
theorem dX8_reasonToRefuse_2 : decode cX8_reasonToRefuse 2 = .ok (.getfield 230, 3) := by decide +kernel
theorem dX8_reasonToRefuse_5 : decode cX8_reasonToRefuse 5 = .ok (.invokevirtual 111, 3) := by decide +kernel
theorem dX8_reasonToRefuse_8 : decode cX8_reasonToRefuse 8 = .ok (.astore_n 2, 1) := by decide +kernel
theorem dX8_reasonToRefuse_9 : decode cX8_reasonToRefuse 9 = .ok (.aload_n 2, 1) := by decide +kernel
theorem dX8_reasonToRefuse_10 : decode cX8_reasonToRefuse 10 = .ok (.ifnonnull 7, 3) := by decide +kernel
theorem dX8_reasonToRefuse_13 : decode cX8_reasonToRefuse 13 = .ok (.aconst_null, 1) := by decide +kernel
theorem dX8_reasonToRefuse_14 : decode cX8_reasonToRefuse 14 = .ok (.goto 11, 3) := by decide +kernel
theorem dX8_reasonToRefuse_17 : decode cX8_reasonToRefuse 17 = .ok (.aload_n 0, 1) := by decide +kernel
theorem dX8_reasonToRefuse_18 : decode cX8_reasonToRefuse 18 = .ok (.aload_n 2, 1) := by decide +kernel
theorem dX8_reasonToRefuse_19 : decode cX8_reasonToRefuse 19 = .ok (.getfield 242, 3) := by decide +kernel
theorem dX8_reasonToRefuse_22 : decode cX8_reasonToRefuse 22 = .ok (.invokevirtual 99, 3) := by decide +kernel
theorem dX8_reasonToRefuse_25 : decode cX8_reasonToRefuse 25 = .ok (.astore_n 3, 1) := by decide +kernel
theorem dX8_reasonToRefuse_26 : decode cX8_reasonToRefuse 26 = .ok (.aload_n 2, 1) := by decide +kernel
theorem dX8_reasonToRefuse_27 : decode cX8_reasonToRefuse 27 = .ok (.ifnull 7, 3) := by decide +kernel
theorem dX8_reasonToRefuse_30 : decode cX8_reasonToRefuse 30 = .ok (.aload_n 3, 1) := by decide +kernel
theorem dX8_reasonToRefuse_31 : decode cX8_reasonToRefuse 31 = .ok (.ifnonnull 5, 3) := by decide +kernel
theorem dX8_reasonToRefuse_34 : decode cX8_reasonToRefuse 34 = .ok (.iconst 1, 1) := by decide +kernel
theorem dX8_reasonToRefuse_35 : decode cX8_reasonToRefuse 35 = .ok (.ireturn, 1) := by decide +kernel
theorem dX8_reasonToRefuse_36 : decode cX8_reasonToRefuse 36 = .ok (.aload_n 2, 1) := by decide +kernel
theorem dX8_reasonToRefuse_37 : decode cX8_reasonToRefuse 37 = .ok (.getfield 115, 3) := by decide +kernel
theorem dX8_reasonToRefuse_40 : decode cX8_reasonToRefuse 40 = .ok (.ifCond .eq 5, 3) := by decide +kernel
theorem dX8_reasonToRefuse_43 : decode cX8_reasonToRefuse 43 = .ok (.iconst 2, 1) := by decide +kernel
theorem dX8_reasonToRefuse_44 : decode cX8_reasonToRefuse 44 = .ok (.ireturn, 1) := by decide +kernel
theorem dX8_reasonToRefuse_45 : decode cX8_reasonToRefuse 45 = .ok (.aload_n 2, 1) := by decide +kernel
theorem dX8_reasonToRefuse_46 : decode cX8_reasonToRefuse 46 = .ok (.getfield 239, 3) := by decide +kernel
theorem dX8_reasonToRefuse_49 : decode cX8_reasonToRefuse 49 = .ok (.bipush (-5), 2) := by decide +kernel
theorem dX8_reasonToRefuse_51 : decode cX8_reasonToRefuse 51 = .ok (.if_icmp .eq 5, 3) := by decide +kernel
theorem dX8_reasonToRefuse_54 : decode cX8_reasonToRefuse 54 = .ok (.iconst 3, 1) := by decide +kernel
theorem dX8_reasonToRefuse_55 : decode cX8_reasonToRefuse 55 = .ok (.ireturn, 1) := by decide +kernel
theorem dX8_reasonToRefuse_56 : decode cX8_reasonToRefuse 56 = .ok (.aload_n 3, 1) := by decide +kernel
theorem dX8_reasonToRefuse_57 : decode cX8_reasonToRefuse 57 = .ok (.getfield 245, 3) := by decide +kernel
theorem dX8_reasonToRefuse_60 : decode cX8_reasonToRefuse 60 = .ok (.aload_n 3, 1) := by decide +kernel
theorem dX8_reasonToRefuse_61 : decode cX8_reasonToRefuse 61 = .ok (.getfield 275, 3) := by decide +kernel
theorem dX8_reasonToRefuse_64 : decode cX8_reasonToRefuse 64 = .ok (.if_icmp .lt 5, 3) := by decide +kernel
theorem dX8_reasonToRefuse_67 : decode cX8_reasonToRefuse 67 = .ok (.iconst 4, 1) := by decide +kernel
theorem dX8_reasonToRefuse_68 : decode cX8_reasonToRefuse 68 = .ok (.ireturn, 1) := by decide +kernel
theorem dX8_reasonToRefuse_69 : decode cX8_reasonToRefuse 69 = .ok (.aload_n 3, 1) := by decide +kernel
theorem dX8_reasonToRefuse_70 : decode cX8_reasonToRefuse 70 = .ok (.getfield 104, 3) := by decide +kernel
theorem dX8_reasonToRefuse_73 : decode cX8_reasonToRefuse 73 = .ok (.aload_n 0, 1) := by decide +kernel
theorem dX8_reasonToRefuse_74 : decode cX8_reasonToRefuse 74 = .ok (.getfield 42, 3) := by decide +kernel
theorem dX8_reasonToRefuse_77 : decode cX8_reasonToRefuse 77 = .ok (.if_icmp .ge 7, 3) := by decide +kernel
theorem dX8_reasonToRefuse_80 : decode cX8_reasonToRefuse 80 = .ok (.iconst 5, 1) := by decide +kernel
theorem dX8_reasonToRefuse_81 : decode cX8_reasonToRefuse 81 = .ok (.goto 4, 3) := by decide +kernel
theorem dX8_reasonToRefuse_84 : decode cX8_reasonToRefuse 84 = .ok (.iconst 0, 1) := by decide +kernel
theorem dX8_reasonToRefuse_85 : decode cX8_reasonToRefuse 85 = .ok (.ireturn, 1) := by decide +kernel
set_option maxRecDepth 20000 in
theorem ggX8_payFare_X8_poolAt : GoodIn wsX8_payFare wsX8_poolAt := goodIn_r _ [11, 12, 13, 22, 23, 24, 25, 26, 27, 28, 29, 30, 31, 32] (by decide +kernel) (by decide +kernel)
set_option maxRecDepth 20000 in
theorem gX8_payFare_X8_poolAt : GoodIn wsX8_payFare (wsV RX8 99 RX8 yX8_poolAt wsX8_poolAt) := goodIn_app (goodIn_of _ (by decide +kernel)) ggX8_payFare_X8_poolAt
theorem dX8_payFare_0 : decode cX8_payFare 0 = .ok (.aload_n 2, 1) := by decide +kernel
theorem dX8_payFare_1 : decode cX8_payFare 1 = .ok (.ifnonnull 7, 3) := by decide +kernel
theorem dX8_payFare_4 : decode cX8_payFare 4 = .ok (.aconst_null, 1) := by decide +kernel
theorem dX8_payFare_5 : decode cX8_payFare 5 = .ok (.goto 11, 3) := by decide +kernel
theorem dX8_payFare_8 : decode cX8_payFare 8 = .ok (.aload_n 0, 1) := by decide +kernel
theorem dX8_payFare_9 : decode cX8_payFare 9 = .ok (.aload_n 2, 1) := by decide +kernel
theorem dX8_payFare_10 : decode cX8_payFare 10 = .ok (.getfield 242, 3) := by decide +kernel
theorem dX8_payFare_13 : decode cX8_payFare 13 = .ok (.invokevirtual 99, 3) := by decide +kernel
theorem dX8_payFare_16 : decode cX8_payFare 16 = .ok (.astore_n 3, 1) := by decide +kernel
theorem dX8_payFare_17 : decode cX8_payFare 17 = .ok (.aload_n 2, 1) := by decide +kernel
theorem dX8_payFare_18 : decode cX8_payFare 18 = .ok (.ifnull 7, 3) := by decide +kernel
theorem dX8_payFare_21 : decode cX8_payFare 21 = .ok (.aload_n 3, 1) := by decide +kernel
theorem dX8_payFare_22 : decode cX8_payFare 22 = .ok (.ifnonnull 4, 3) := by decide +kernel
theorem dX8_payFare_25 : decode cX8_payFare 25 = .ok (.return_, 1) := by decide +kernel
theorem dX8_payFare_26 : decode cX8_payFare 26 = .ok (.aload_n 2, 1) := by decide +kernel
theorem dX8_payFare_27 : decode cX8_payFare 27 = .ok (.iload_n 1, 1) := by decide +kernel
theorem dX8_payFare_28 : decode cX8_payFare 28 = .ok (.putfield 239, 3) := by decide +kernel
theorem dX8_payFare_31 : decode cX8_payFare 31 = .ok (.aload_n 3, 1) := by decide +kernel
theorem dX8_payFare_32 : decode cX8_payFare 32 = .ok (.dup, 1) := by decide +kernel
theorem dX8_payFare_33 : decode cX8_payFare 33 = .ok (.getfield 245, 3) := by decide +kernel
theorem dX8_payFare_36 : decode cX8_payFare 36 = .ok (.iconst 1, 1) := by decide +kernel
theorem dX8_payFare_37 : decode cX8_payFare 37 = .ok (.iadd, 1) := by decide +kernel
theorem dX8_payFare_38 : decode cX8_payFare 38 = .ok (.putfield 245, 3) := by decide +kernel
theorem dX8_payFare_41 : decode cX8_payFare 41 = .ok (.aload_n 3, 1) := by decide +kernel
theorem dX8_payFare_42 : decode cX8_payFare 42 = .ok (.dup, 1) := by decide +kernel
theorem dX8_payFare_43 : decode cX8_payFare 43 = .ok (.getfield 104, 3) := by decide +kernel
theorem dX8_payFare_46 : decode cX8_payFare 46 = .ok (.aload_n 0, 1) := by decide +kernel
theorem dX8_payFare_47 : decode cX8_payFare 47 = .ok (.getfield 42, 3) := by decide +kernel
theorem dX8_payFare_50 : decode cX8_payFare 50 = .ok (.isub, 1) := by decide +kernel
