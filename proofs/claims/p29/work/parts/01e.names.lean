theorem dX8_payFare_51 : decode cX8_payFare 51 = .ok (.putfield 104, 3) := by decide +kernel
theorem dX8_payFare_54 : decode cX8_payFare 54 = .ok (.aload_n 3, 1) := by decide +kernel
theorem dX8_payFare_55 : decode cX8_payFare 55 = .ok (.dup, 1) := by decide +kernel
theorem dX8_payFare_56 : decode cX8_payFare 56 = .ok (.getfield 278, 3) := by decide +kernel
theorem dX8_payFare_59 : decode cX8_payFare 59 = .ok (.aload_n 0, 1) := by decide +kernel
theorem dX8_payFare_60 : decode cX8_payFare 60 = .ok (.getfield 42, 3) := by decide +kernel
theorem dX8_payFare_63 : decode cX8_payFare 63 = .ok (.iadd, 1) := by decide +kernel
theorem dX8_payFare_64 : decode cX8_payFare 64 = .ok (.putfield 278, 3) := by decide +kernel
theorem dX8_payFare_67 : decode cX8_payFare 67 = .ok (.return_, 1) := by decide +kernel
theorem dX8_peopleWhoAre_0 : decode cX8_peopleWhoAre 0 = .ok (.iconst 0, 1) := by decide +kernel
theorem dX8_peopleWhoAre_1 : decode cX8_peopleWhoAre 1 = .ok (.istore_n 2, 1) := by decide +kernel
theorem dX8_peopleWhoAre_2 : decode cX8_peopleWhoAre 2 = .ok (.iconst 0, 1) := by decide +kernel
theorem dX8_peopleWhoAre_3 : decode cX8_peopleWhoAre 3 = .ok (.istore_n 3, 1) := by decide +kernel
theorem dX8_peopleWhoAre_4 : decode cX8_peopleWhoAre 4 = .ok (.iload_n 3, 1) := by decide +kernel
theorem dX8_peopleWhoAre_5 : decode cX8_peopleWhoAre 5 = .ok (.aload_n 0, 1) := by decide +kernel
theorem dX8_peopleWhoAre_6 : decode cX8_peopleWhoAre 6 = .ok (.getfield 57, 3) := by decide +kernel
theorem dX8_peopleWhoAre_9 : decode cX8_peopleWhoAre 9 = .ok (.if_icmp .ge 34, 3) := by decide +kernel
theorem dX8_peopleWhoAre_12 : decode cX8_peopleWhoAre 12 = .ok (.iload_n 3, 1) := by decide +kernel
theorem dX8_peopleWhoAre_13 : decode cX8_peopleWhoAre 13 = .ok (.aload_n 0, 1) := by decide +kernel
theorem dX8_peopleWhoAre_14 : decode cX8_peopleWhoAre 14 = .ok (.getfield 19, 3) := by decide +kernel
theorem dX8_peopleWhoAre_17 : decode cX8_peopleWhoAre 17 = .ok (.arraylength, 1) := by decide +kernel
theorem dX8_peopleWhoAre_18 : decode cX8_peopleWhoAre 18 = .ok (.if_icmp .ge 25, 3) := by decide +kernel
theorem dX8_peopleWhoAre_21 : decode cX8_peopleWhoAre 21 = .ok (.aload_n 0, 1) := by decide +kernel
theorem dX8_peopleWhoAre_22 : decode cX8_peopleWhoAre 22 = .ok (.getfield 19, 3) := by decide +kernel
theorem dX8_peopleWhoAre_25 : decode cX8_peopleWhoAre 25 = .ok (.iload_n 3, 1) := by decide +kernel
theorem dX8_peopleWhoAre_26 : decode cX8_peopleWhoAre 26 = .ok (.aaload, 1) := by decide +kernel
theorem dX8_peopleWhoAre_27 : decode cX8_peopleWhoAre 27 = .ok (.getfield 139, 3) := by decide +kernel
theorem dX8_peopleWhoAre_30 : decode cX8_peopleWhoAre 30 = .ok (.iload_n 1, 1) := by decide +kernel
theorem dX8_peopleWhoAre_31 : decode cX8_peopleWhoAre 31 = .ok (.if_icmp .ne 6, 3) := by decide +kernel
theorem dX8_peopleWhoAre_34 : decode cX8_peopleWhoAre 34 = .ok (.iinc 2 1, 3) := by decide +kernel
theorem dX8_peopleWhoAre_37 : decode cX8_peopleWhoAre 37 = .ok (.iinc 3 1, 3) := by decide +kernel
theorem dX8_peopleWhoAre_40 : decode cX8_peopleWhoAre 40 = .ok (.goto (-36), 3) := by decide +kernel
theorem dX8_peopleWhoAre_43 : decode cX8_peopleWhoAre 43 = .ok (.iload_n 2, 1) := by decide +kernel
theorem dX8_peopleWhoAre_44 : decode cX8_peopleWhoAre 44 = .ok (.ireturn, 1) := by decide +kernel
theorem dX8_allRefusals_0 : decode cX8_allRefusals 0 = .ok (.iconst 0, 1) := by decide +kernel
theorem dX8_allRefusals_1 : decode cX8_allRefusals 1 = .ok (.istore_n 1, 1) := by decide +kernel
theorem dX8_allRefusals_2 : decode cX8_allRefusals 2 = .ok (.iconst 0, 1) := by decide +kernel
theorem dX8_allRefusals_3 : decode cX8_allRefusals 3 = .ok (.istore_n 2, 1) := by decide +kernel
theorem dX8_allRefusals_4 : decode cX8_allRefusals 4 = .ok (.iload_n 2, 1) := by decide +kernel
theorem dX8_allRefusals_5 : decode cX8_allRefusals 5 = .ok (.aload_n 0, 1) := by decide +kernel
theorem dX8_allRefusals_6 : decode cX8_allRefusals 6 = .ok (.getfield 50, 3) := by decide +kernel
theorem dX8_allRefusals_9 : decode cX8_allRefusals 9 = .ok (.if_icmp .ge 30, 3) := by decide +kernel
theorem dX8_allRefusals_12 : decode cX8_allRefusals 12 = .ok (.iload_n 2, 1) := by decide +kernel
theorem dX8_allRefusals_13 : decode cX8_allRefusals 13 = .ok (.aload_n 0, 1) := by decide +kernel
theorem dX8_allRefusals_14 : decode cX8_allRefusals 14 = .ok (.getfield 11, 3) := by decide +kernel
theorem dX8_allRefusals_17 : decode cX8_allRefusals 17 = .ok (.arraylength, 1) := by decide +kernel
theorem dX8_allRefusals_18 : decode cX8_allRefusals 18 = .ok (.if_icmp .ge 21, 3) := by decide +kernel
theorem dX8_allRefusals_21 : decode cX8_allRefusals 21 = .ok (.iload_n 1, 1) := by decide +kernel
theorem dX8_allRefusals_22 : decode cX8_allRefusals 22 = .ok (.aload_n 0, 1) := by decide +kernel
theorem dX8_allRefusals_23 : decode cX8_allRefusals 23 = .ok (.getfield 11, 3) := by decide +kernel
theorem dX8_allRefusals_26 : decode cX8_allRefusals 26 = .ok (.iload_n 2, 1) := by decide +kernel
theorem dX8_allRefusals_27 : decode cX8_allRefusals 27 = .ok (.aaload, 1) := by decide +kernel
theorem dX8_allRefusals_28 : decode cX8_allRefusals 28 = .ok (.getfield 259, 3) := by decide +kernel
theorem dX8_allRefusals_31 : decode cX8_allRefusals 31 = .ok (.iadd, 1) := by decide +kernel
theorem dX8_allRefusals_32 : decode cX8_allRefusals 32 = .ok (.istore_n 1, 1) := by decide +kernel
theorem dX8_allRefusals_33 : decode cX8_allRefusals 33 = .ok (.iinc 2 1, 3) := by decide +kernel
theorem dX8_allRefusals_36 : decode cX8_allRefusals 36 = .ok (.goto (-32), 3) := by decide +kernel
theorem dX8_allRefusals_39 : decode cX8_allRefusals 39 = .ok (.iload_n 1, 1) := by decide +kernel
theorem dX8_allRefusals_40 : decode cX8_allRefusals 40 = .ok (.ireturn, 1) := by decide +kernel
theorem dX8_allFares_0 : decode cX8_allFares 0 = .ok (.iconst 0, 1) := by decide +kernel
theorem dX8_allFares_1 : decode cX8_allFares 1 = .ok (.istore_n 1, 1) := by decide +kernel
theorem dX8_allFares_2 : decode cX8_allFares 2 = .ok (.iconst 0, 1) := by decide +kernel
theorem dX8_allFares_3 : decode cX8_allFares 3 = .ok (.istore_n 2, 1) := by decide +kernel
theorem dX8_allFares_4 : decode cX8_allFares 4 = .ok (.iload_n 2, 1) := by decide +kernel
theorem dX8_allFares_5 : decode cX8_allFares 5 = .ok (.aload_n 0, 1) := by decide +kernel
theorem dX8_allFares_6 : decode cX8_allFares 6 = .ok (.getfield 63, 3) := by decide +kernel
theorem dX8_allFares_9 : decode cX8_allFares 9 = .ok (.if_icmp .ge 30, 3) := by decide +kernel
theorem dX8_allFares_12 : decode cX8_allFares 12 = .ok (.iload_n 2, 1) := by decide +kernel
theorem dX8_allFares_13 : decode cX8_allFares 13 = .ok (.aload_n 0, 1) := by decide +kernel
theorem dX8_allFares_14 : decode cX8_allFares 14 = .ok (.getfield 25, 3) := by decide +kernel
theorem dX8_allFares_17 : decode cX8_allFares 17 = .ok (.arraylength, 1) := by decide +kernel
theorem dX8_allFares_18 : decode cX8_allFares 18 = .ok (.if_icmp .ge 21, 3) := by decide +kernel
theorem dX8_allFares_21 : decode cX8_allFares 21 = .ok (.iload_n 1, 1) := by decide +kernel
theorem dX8_allFares_22 : decode cX8_allFares 22 = .ok (.aload_n 0, 1) := by decide +kernel
theorem dX8_allFares_23 : decode cX8_allFares 23 = .ok (.getfield 25, 3) := by decide +kernel
theorem dX8_allFares_26 : decode cX8_allFares 26 = .ok (.iload_n 2, 1) := by decide +kernel
theorem dX8_allFares_27 : decode cX8_allFares 27 = .ok (.aaload, 1) := by decide +kernel
theorem dX8_allFares_28 : decode cX8_allFares 28 = .ok (.getfield 278, 3) := by decide +kernel
theorem dX8_allFares_31 : decode cX8_allFares 31 = .ok (.iadd, 1) := by decide +kernel
theorem dX8_allFares_32 : decode cX8_allFares 32 = .ok (.istore_n 1, 1) := by decide +kernel
theorem dX8_allFares_33 : decode cX8_allFares 33 = .ok (.iinc 2 1, 3) := by decide +kernel
theorem dX8_allFares_36 : decode cX8_allFares 36 = .ok (.goto (-32), 3) := by decide +kernel
theorem dX8_allFares_39 : decode cX8_allFares 39 = .ok (.iload_n 1, 1) := by decide +kernel
theorem dX8_allFares_40 : decode cX8_allFares 40 = .ok (.ireturn, 1) := by decide +kernel
set_option maxRecDepth 20000 in
theorem ggX8_busiestGate_X1_queuesTogether : GoodIn wsX8_busiestGate wsX1_queuesTogether := goodIn_r _ [7, 8, 9, 10, 22, 23, 24, 25, 26, 27, 28, 29, 30, 31, 32, 33, 34, 35, 36, 37, 38] (by decide +kernel) (by decide +kernel)
set_option maxRecDepth 20000 in
theorem gX8_busiestGate_X1_queuesTogether : GoodIn wsX8_busiestGate (wsV RX8 148 RX1 yX1_queuesTogether wsX1_queuesTogether) := goodIn_app (goodIn_of _ (by decide +kernel)) ggX8_busiestGate_X1_queuesTogether
theorem dX8_busiestGate_0 : decode cX8_busiestGate 0 = .ok (.bipush (-5), 2) := by decide +kernel
theorem dX8_busiestGate_2 : decode cX8_busiestGate 2 = .ok (.istore_n 1, 1) := by decide +kernel
theorem dX8_busiestGate_3 : decode cX8_busiestGate 3 = .ok (.iconst (-1), 1) := by decide +kernel
theorem dX8_busiestGate_4 : decode cX8_busiestGate 4 = .ok (.istore_n 2, 1) := by decide +kernel
theorem dX8_busiestGate_5 : decode cX8_busiestGate 5 = .ok (.iconst 0, 1) := by decide +kernel
theorem dX8_busiestGate_6 : decode cX8_busiestGate 6 = .ok (.istore_n 3, 1) := by decide +kernel
theorem dX8_busiestGate_7 : decode cX8_busiestGate 7 = .ok (.iload_n 3, 1) := by decide +kernel
theorem dX8_busiestGate_8 : decode cX8_busiestGate 8 = .ok (.aload_n 0, 1) := by decide +kernel
theorem dX8_busiestGate_9 : decode cX8_busiestGate 9 = .ok (.getfield 50, 3) := by decide +kernel
theorem dX8_busiestGate_12 : decode cX8_busiestGate 12 = .ok (.if_icmp .ge 43, 3) := by decide +kernel
theorem dX8_busiestGate_15 : decode cX8_busiestGate 15 = .ok (.iload_n 3, 1) := by decide +kernel
theorem dX8_busiestGate_16 : decode cX8_busiestGate 16 = .ok (.aload_n 0, 1) := by decide +kernel
theorem dX8_busiestGate_17 : decode cX8_busiestGate 17 = .ok (.getfield 11, 3) := by decide +kernel
theorem dX8_busiestGate_20 : decode cX8_busiestGate 20 = .ok (.arraylength, 1) := by decide +kernel
theorem dX8_busiestGate_21 : decode cX8_busiestGate 21 = .ok (.if_icmp .ge 34, 3) := by decide +kernel
theorem dX8_busiestGate_24 : decode cX8_busiestGate 24 = .ok (.aload_n 0, 1) := by decide +kernel
theorem dX8_busiestGate_25 : decode cX8_busiestGate 25 = .ok (.getfield 11, 3) := by decide +kernel
theorem dX8_busiestGate_28 : decode cX8_busiestGate 28 = .ok (.iload_n 3, 1) := by decide +kernel
theorem dX8_busiestGate_29 : decode cX8_busiestGate 29 = .ok (.aaload, 1) := by decide +kernel
theorem dX8_busiestGate_30 : decode cX8_busiestGate 30 = .ok (.invokevirtual 148, 3) := by decide +kernel
theorem dX8_busiestGate_33 : decode cX8_busiestGate 33 = .ok (.iload_n 2, 1) := by decide +kernel
theorem dX8_busiestGate_34 : decode cX8_busiestGate 34 = .ok (.if_icmp .le 15, 3) := by decide +kernel
theorem dX8_busiestGate_37 : decode cX8_busiestGate 37 = .ok (.iload_n 3, 1) := by decide +kernel
theorem dX8_busiestGate_38 : decode cX8_busiestGate 38 = .ok (.istore_n 1, 1) := by decide +kernel
theorem dX8_busiestGate_39 : decode cX8_busiestGate 39 = .ok (.aload_n 0, 1) := by decide +kernel
theorem dX8_busiestGate_40 : decode cX8_busiestGate 40 = .ok (.getfield 11, 3) := by decide +kernel
theorem dX8_busiestGate_43 : decode cX8_busiestGate 43 = .ok (.iload_n 3, 1) := by decide +kernel
theorem dX8_busiestGate_44 : decode cX8_busiestGate 44 = .ok (.aaload, 1) := by decide +kernel
theorem dX8_busiestGate_45 : decode cX8_busiestGate 45 = .ok (.invokevirtual 148, 3) := by decide +kernel
theorem dX8_busiestGate_48 : decode cX8_busiestGate 48 = .ok (.istore_n 2, 1) := by decide +kernel
theorem dX8_busiestGate_49 : decode cX8_busiestGate 49 = .ok (.iinc 3 1, 3) := by decide +kernel
theorem dX8_busiestGate_52 : decode cX8_busiestGate 52 = .ok (.goto (-45), 3) := by decide +kernel
theorem dX8_busiestGate_55 : decode cX8_busiestGate 55 = .ok (.iload_n 1, 1) := by decide +kernel
theorem dX8_busiestGate_56 : decode cX8_busiestGate 56 = .ok (.ireturn, 1) := by decide +kernel
set_option maxRecDepth 20000 in
theorem ggX9_init_X8_init : GoodIn wsX9_init wsX8_init := goodIn_r _ [19, 20, 2, 3, 21, 22, 23, 24, 25, 26, 27, 28, 29, 30, 31, 32, 33, 34, 35, 36, 37, 38, 39, 40, 41, 42, 43, 44, 45, 46, 47, 48, 49, 50, 51, 52, 53, 54, 55, 56, 57, 58, 59, 60, 61, 62, 63, 64, 65, 66, 67, 68, 69, 70, 71, 72, 85, 86, 87, 88, 89, 90, 91, 92, 93, 94, 95, 110, 111, 112, 113, 114, 115, 116, 117, 118, 119, 120, 121, 122, 123, 124, 125, 126, 127, 128, 129, 130, 131, 132, 133, 134, 135, 136, 137, 138, 139, 140, 141, 142, 143, 144, 145, 146, 147] (by decide +kernel) (by decide +kernel)
set_option maxRecDepth 20000 in
theorem gX9_init_X8_init : GoodIn wsX9_init (wsX8_init) := ggX9_init_X8_init
set_option maxRecDepth 20000 in
theorem ggX9_init_X2_init : GoodIn wsX9_init wsX2_init := goodIn_r _ [75, 76, 2, 3, 77, 78, 5, 6, 79, 18, 19, 20, 21, 22, 23, 24, 25, 26, 27, 28, 29, 30, 31, 32, 33, 34, 35, 36, 37, 38, 39, 40, 41, 42, 43, 44, 45, 46, 47, 48, 49, 50, 51, 52, 53, 54, 55, 56, 57, 58, 59, 60, 61, 62, 63, 64, 65, 66, 67, 68, 69, 70, 71, 72, 100, 101, 102, 85, 86, 87, 88, 89, 90, 91, 92, 93, 94, 95, 110, 111, 112, 113, 114, 115, 116, 117, 118, 119, 120, 121, 122, 123, 124, 125, 126, 127, 128, 129, 130, 131, 132, 133, 134, 135, 136, 137, 138, 139, 140, 141, 142, 143, 144, 145, 146, 147] (by decide +kernel) (by decide +kernel)
set_option maxRecDepth 20000 in
theorem gX9_init_X2_init : GoodIn wsX9_init (wsX2_init) := ggX9_init_X2_init
set_option maxRecDepth 20000 in
theorem ggX9_init_X3_init : GoodIn wsX9_init wsX3_init := goodIn_r _ [81, 82, 2, 3, 83, 84, 103, 104, 105, 106, 107, 108, 109] (by decide +kernel) (by decide +kernel)
set_option maxRecDepth 20000 in
theorem gX9_init_X3_init_n28 : GoodIn wsX9_init (wsX3_init) := ggX9_init_X3_init
theorem dX9_init_0 : decode cX9_init 0 = .ok (.aload_n 0, 1) := by decide +kernel
theorem dX9_init_1 : decode cX9_init 1 = .ok (.invokespecial 1, 3) := by decide +kernel
theorem dX9_init_4 : decode cX9_init 4 = .ok (.aload_n 0, 1) := by decide +kernel
theorem dX9_init_5 : decode cX9_init 5 = .ok (.new 7, 3) := by decide +kernel
theorem dX9_init_8 : decode cX9_init 8 = .ok (.dup, 1) := by decide +kernel
theorem dX9_init_9 : decode cX9_init 9 = .ok (.invokespecial 9, 3) := by decide +kernel
theorem dX9_init_12 : decode cX9_init 12 = .ok (.putfield 10, 3) := by decide +kernel
theorem dX9_init_15 : decode cX9_init 15 = .ok (.aload_n 0, 1) := by decide +kernel
theorem dX9_init_16 : decode cX9_init 16 = .ok (.new 7, 3) := by decide +kernel
theorem dX9_init_19 : decode cX9_init 19 = .ok (.dup, 1) := by decide +kernel
theorem dX9_init_20 : decode cX9_init 20 = .ok (.invokespecial 9, 3) := by decide +kernel
theorem dX9_init_23 : decode cX9_init 23 = .ok (.putfield 16, 3) := by decide +kernel
theorem dX9_init_26 : decode cX9_init 26 = .ok (.aload_n 0, 1) := by decide +kernel
theorem dX9_init_27 : decode cX9_init 27 = .ok (.new 19, 3) := by decide +kernel
theorem dX9_init_30 : decode cX9_init 30 = .ok (.dup, 1) := by decide +kernel
theorem dX9_init_31 : decode cX9_init 31 = .ok (.invokespecial 21, 3) := by decide +kernel
theorem dX9_init_34 : decode cX9_init 34 = .ok (.putfield 22, 3) := by decide +kernel
theorem dX9_init_37 : decode cX9_init 37 = .ok (.aload_n 0, 1) := by decide +kernel
theorem dX9_init_38 : decode cX9_init 38 = .ok (.new 26, 3) := by decide +kernel
theorem dX9_init_41 : decode cX9_init 41 = .ok (.dup, 1) := by decide +kernel
theorem dX9_init_42 : decode cX9_init 42 = .ok (.invokespecial 28, 3) := by decide +kernel
theorem dX9_init_45 : decode cX9_init 45 = .ok (.putfield 29, 3) := by decide +kernel
theorem dX9_init_48 : decode cX9_init 48 = .ok (.return_, 1) := by decide +kernel
set_option maxRecDepth 20000 in
theorem ggX9_addGate_X2_prepare : GoodIn wsX9_addGate wsX2_prepare := goodIn_r _ [7, 8, 9, 10, 11, 12, 6, 13, 14, 15, 16, 17, 18, 19, 20, 21, 22, 23, 24, 25, 26, 27, 28, 29, 30, 31, 32, 33, 34, 35, 36, 37, 38, 39, 40, 41, 42, 43, 44, 45, 46, 47, 48, 49, 50, 51, 52, 53, 54, 55, 56, 57, 58, 59, 60, 61, 62, 63, 64, 65, 66, 67, 68, 69, 70, 71, 72, 73, 74, 75, 76, 77, 78, 79, 80, 81, 82, 83, 84, 85, 86, 87, 88, 89, 90, 91, 92, 93, 94, 95, 96, 97, 98, 99, 100, 101, 102, 103, 104, 105, 106, 107, 108, 109, 110, 111, 136, 137, 138, 139, 140, 141, 142, 143, 144, 145, 146, 147, 148, 149, 150, 151, 152, 153, 154, 155, 156, 157, 158, 159, 160, 161, 162, 163, 164, 165, 166, 167, 168, 169, 170, 171, 172, 173, 174, 175, 176, 177, 178, 179, 180, 181, 182, 183, 184, 185, 186, 187] (by decide +kernel) (by decide +kernel)
set_option maxRecDepth 20000 in
theorem gX9_addGate_X2_prepare : GoodIn wsX9_addGate (wsV RX9 33 RX2 yX2_prepare wsX2_prepare) := goodIn_app (goodIn_of _ (by decide +kernel)) ggX9_addGate_X2_prepare
set_option maxRecDepth 20000 in
theorem ggX9_addGate_X8_newGate : GoodIn wsX9_addGate wsX8_newGate := goodIn_r _ [115, 24, 25, 116, 117, 118, 119, 120, 121, 38, 122, 40, 123, 41, 42, 43, 44, 45, 46, 47, 48, 49, 50, 51, 52, 53, 54, 139, 140, 141, 142, 143, 144, 145, 146, 147, 148, 149, 150, 151, 152, 153, 154, 155, 156, 157, 158, 159, 160, 161, 162, 163, 164, 165, 166] (by decide +kernel) (by decide +kernel)
set_option maxRecDepth 20000 in
theorem gX9_addGate_X8_newGate : GoodIn wsX9_addGate (wsV RX9 37 RX8 yX8_newGate wsX8_newGate) := goodIn_app (goodIn_of _ (by decide +kernel)) ggX9_addGate_X8_newGate
set_option maxRecDepth 20000 in
theorem ggX9_addGate_X9_recorded : GoodIn wsX9_addGate wsX9_recorded := goodIn_r _ [127, 1, 128, 129, 130, 6, 131, 9, 14, 10, 11, 12, 13, 15, 16, 17, 18, 132, 133, 134, 135, 136, 137, 138] (by decide +kernel) (by decide +kernel)
set_option maxRecDepth 20000 in
theorem gX9_addGate_X9_recorded : GoodIn wsX9_addGate (wsV RX9 41 RX9 yX9_recorded wsX9_recorded) := goodIn_app (goodIn_of _ (by decide +kernel)) ggX9_addGate_X9_recorded
theorem dX9_addGate_0 : decode cX9_addGate 0 = .ok (.aload_n 0, 1) := by decide +kernel
theorem dX9_addGate_1 : decode cX9_addGate 1 = .ok (.getfield 22, 3) := by decide +kernel
theorem dX9_addGate_4 : decode cX9_addGate 4 = .ok (.aload_n 0, 1) := by decide +kernel
theorem dX9_addGate_5 : decode cX9_addGate 5 = .ok (.getfield 10, 3) := by decide +kernel
theorem dX9_addGate_8 : decode cX9_addGate 8 = .ok (.invokevirtual 33, 3) := by decide +kernel
theorem dX9_addGate_11 : decode cX9_addGate 11 = .ok (.aload_n 0, 1) := by decide +kernel
theorem dX9_addGate_12 : decode cX9_addGate 12 = .ok (.aload_n 0, 1) := by decide +kernel
theorem dX9_addGate_13 : decode cX9_addGate 13 = .ok (.getfield 10, 3) := by decide +kernel
theorem dX9_addGate_16 : decode cX9_addGate 16 = .ok (.iload_n 1, 1) := by decide +kernel
theorem dX9_addGate_17 : decode cX9_addGate 17 = .ok (.iload_n 2, 1) := by decide +kernel
theorem dX9_addGate_18 : decode cX9_addGate 18 = .ok (.iload_n 3, 1) := by decide +kernel
theorem dX9_addGate_19 : decode cX9_addGate 19 = .ok (.iload 4, 2) := by decide +kernel
theorem dX9_addGate_21 : decode cX9_addGate 21 = .ok (.invokevirtual 37, 3) := by decide +kernel
theorem dX9_addGate_24 : decode cX9_addGate 24 = .ok (.invokevirtual 41, 3) := by decide +kernel
theorem dX9_addGate_27 : decode cX9_addGate 27 = .ok (.ireturn, 1) := by decide +kernel
set_option maxRecDepth 20000 in
theorem ggX9_setDirection_X2_prepare : GoodIn wsX9_setDirection wsX2_prepare := goodIn_r _ [7, 8, 9, 10, 11, 12, 6, 13, 14, 15, 16, 17, 18, 19, 20, 21, 22, 23, 24, 25, 26, 27, 28, 29, 30, 31, 32, 33, 34, 35, 36, 37, 38, 39, 40, 41, 42, 43, 44, 45, 46, 47, 48, 49, 50, 51, 52, 53, 54, 55, 56, 57, 58, 59, 60, 61, 62, 63, 64, 65, 66, 67, 68, 69, 70, 71, 72, 73, 74, 75, 76, 77, 78, 79, 80, 81, 82, 83, 84, 85, 86, 87, 88, 89, 90, 91, 92, 93, 94, 95, 96, 97, 98, 99, 100, 101, 102, 103, 104, 105, 106, 107, 108, 109, 110, 111, 136, 137, 138, 139, 140, 141, 142, 143, 144, 145, 146, 147, 148, 149, 150, 151, 152, 153, 154, 155, 156, 157, 158, 159, 160, 161, 162, 163, 164, 165, 166, 167, 168, 169, 170, 171, 172, 173, 174, 175, 176, 177, 178, 179, 180, 181, 182, 183, 184, 185, 186, 187] (by decide +kernel) (by decide +kernel)
set_option maxRecDepth 20000 in
theorem gX9_setDirection_X2_prepare : GoodIn wsX9_setDirection (wsV RX9 33 RX2 yX2_prepare wsX2_prepare) := goodIn_app (goodIn_of _ (by decide +kernel)) ggX9_setDirection_X2_prepare
set_option maxRecDepth 20000 in
theorem ggX9_setDirection_X8_turnGate : GoodIn wsX9_setDirection wsX8_turnGate := goodIn_r _ [115, 116, 117, 118, 119, 22, 120, 24, 25, 121, 122, 123, 150, 151, 152, 153, 154, 155, 156, 157, 158, 159, 160, 161, 162, 163, 164, 139, 140, 141, 142, 143, 144, 145, 146, 147, 148, 149] (by decide +kernel) (by decide +kernel)
set_option maxRecDepth 20000 in
theorem gX9_setDirection_X8_turnGate : GoodIn wsX9_setDirection (wsV RX9 45 RX8 yX8_turnGate wsX8_turnGate) := goodIn_app (goodIn_of _ (by decide +kernel)) ggX9_setDirection_X8_turnGate
set_option maxRecDepth 20000 in
theorem ggX9_setDirection_X9_recorded : GoodIn wsX9_setDirection wsX9_recorded := goodIn_r _ [127, 1, 128, 129, 130, 6, 131, 9, 14, 10, 11, 12, 13, 15, 16, 17, 18, 132, 133, 134, 135, 136, 137, 138] (by decide +kernel) (by decide +kernel)
set_option maxRecDepth 20000 in
theorem gX9_setDirection_X9_recorded : GoodIn wsX9_setDirection (wsV RX9 41 RX9 yX9_recorded wsX9_recorded) := goodIn_app (goodIn_of _ (by decide +kernel)) ggX9_setDirection_X9_recorded
theorem dX9_setDirection_0 : decode cX9_setDirection 0 = .ok (.aload_n 0, 1) := by decide +kernel
theorem dX9_setDirection_1 : decode cX9_setDirection 1 = .ok (.getfield 22, 3) := by decide +kernel
theorem dX9_setDirection_4 : decode cX9_setDirection 4 = .ok (.aload_n 0, 1) := by decide +kernel
theorem dX9_setDirection_5 : decode cX9_setDirection 5 = .ok (.getfield 10, 3) := by decide +kernel
theorem dX9_setDirection_8 : decode cX9_setDirection 8 = .ok (.invokevirtual 33, 3) := by decide +kernel
theorem dX9_setDirection_11 : decode cX9_setDirection 11 = .ok (.aload_n 0, 1) := by decide +kernel
theorem dX9_setDirection_12 : decode cX9_setDirection 12 = .ok (.aload_n 0, 1) := by decide +kernel
theorem dX9_setDirection_13 : decode cX9_setDirection 13 = .ok (.getfield 10, 3) := by decide +kernel
theorem dX9_setDirection_16 : decode cX9_setDirection 16 = .ok (.iload_n 1, 1) := by decide +kernel
theorem dX9_setDirection_17 : decode cX9_setDirection 17 = .ok (.iload_n 2, 1) := by decide +kernel
theorem dX9_setDirection_18 : decode cX9_setDirection 18 = .ok (.invokevirtual 45, 3) := by decide +kernel
theorem dX9_setDirection_21 : decode cX9_setDirection 21 = .ok (.invokevirtual 41, 3) := by decide +kernel
theorem dX9_setDirection_24 : decode cX9_setDirection 24 = .ok (.ireturn, 1) := by decide +kernel
set_option maxRecDepth 20000 in
theorem ggX9_addPool_X2_prepare : GoodIn wsX9_addPool wsX2_prepare := goodIn_r _ [7, 8, 9, 10, 11, 12, 6, 13, 14, 15, 16, 17, 18, 19, 20, 21, 22, 23, 24, 25, 26, 27, 28, 29, 30, 31, 32, 33, 34, 35, 36, 37, 38, 39, 40, 41, 42, 43, 44, 45, 46, 47, 48, 49, 50, 51, 52, 53, 54, 55, 56, 57, 58, 59, 60, 61, 62, 63, 64, 65, 66, 67, 68, 69, 70, 71, 72, 73, 74, 75, 76, 77, 78, 79, 80, 81, 82, 83, 84, 85, 86, 87, 88, 89, 90, 91, 92, 93, 94, 95, 96, 97, 98, 99, 100, 101, 102, 103, 104, 105, 106, 107, 108, 109, 110, 111, 135, 136, 137, 138, 139, 140, 141, 142, 143, 144, 145, 146, 147, 148, 149, 150, 151, 152, 153, 154, 155, 156, 157, 158, 159, 160, 161, 162, 163, 164, 165, 166, 167, 168, 169, 170, 171, 172, 173, 174, 175, 176, 177, 178, 179, 180, 181, 182, 183, 184, 185, 186] (by decide +kernel) (by decide +kernel)
set_option maxRecDepth 20000 in
theorem gX9_addPool_X2_prepare : GoodIn wsX9_addPool (wsV RX9 33 RX2 yX2_prepare wsX2_prepare) := goodIn_app (goodIn_of _ (by decide +kernel)) ggX9_addPool_X2_prepare
set_option maxRecDepth 20000 in
theorem ggX9_addPool_X8_newPool : GoodIn wsX9_addPool wsX8_newPool := goodIn_r _ [115, 28, 29, 116, 117, 118, 119, 120, 121, 85, 122, 87, 88, 89, 90, 91, 138, 139, 140, 141, 142, 143, 144, 145, 146, 147, 148, 173, 174, 175, 176, 177] (by decide +kernel) (by decide +kernel)
set_option maxRecDepth 20000 in
theorem gX9_addPool_X8_newPool : GoodIn wsX9_addPool (wsV RX9 49 RX8 yX8_newPool wsX8_newPool) := goodIn_app (goodIn_of _ (by decide +kernel)) ggX9_addPool_X8_newPool
set_option maxRecDepth 20000 in
theorem ggX9_addPool_X9_recorded : GoodIn wsX9_addPool wsX9_recorded := goodIn_r _ [126, 1, 127, 128, 129, 6, 130, 9, 14, 10, 11, 12, 13, 15, 16, 17, 18, 131, 132, 133, 134, 135, 136, 137] (by decide +kernel) (by decide +kernel)
set_option maxRecDepth 20000 in
theorem gX9_addPool_X9_recorded : GoodIn wsX9_addPool (wsV RX9 41 RX9 yX9_recorded wsX9_recorded) := goodIn_app (goodIn_of _ (by decide +kernel)) ggX9_addPool_X9_recorded
theorem dX9_addPool_0 : decode cX9_addPool 0 = .ok (.aload_n 0, 1) := by decide +kernel
theorem dX9_addPool_1 : decode cX9_addPool 1 = .ok (.getfield 22, 3) := by decide +kernel
theorem dX9_addPool_4 : decode cX9_addPool 4 = .ok (.aload_n 0, 1) := by decide +kernel
theorem dX9_addPool_5 : decode cX9_addPool 5 = .ok (.getfield 10, 3) := by decide +kernel
theorem dX9_addPool_8 : decode cX9_addPool 8 = .ok (.invokevirtual 33, 3) := by decide +kernel
theorem dX9_addPool_11 : decode cX9_addPool 11 = .ok (.aload_n 0, 1) := by decide +kernel
theorem dX9_addPool_12 : decode cX9_addPool 12 = .ok (.aload_n 0, 1) := by decide +kernel
theorem dX9_addPool_13 : decode cX9_addPool 13 = .ok (.getfield 10, 3) := by decide +kernel
theorem dX9_addPool_16 : decode cX9_addPool 16 = .ok (.iload_n 1, 1) := by decide +kernel
theorem dX9_addPool_17 : decode cX9_addPool 17 = .ok (.invokevirtual 49, 3) := by decide +kernel
theorem dX9_addPool_20 : decode cX9_addPool 20 = .ok (.invokevirtual 41, 3) := by decide +kernel
theorem dX9_addPool_23 : decode cX9_addPool 23 = .ok (.ireturn, 1) := by decide +kernel
set_option maxRecDepth 20000 in
theorem ggX9_credit_X2_prepare : GoodIn wsX9_credit wsX2_prepare := goodIn_r _ [7, 8, 9, 10, 11, 12, 6, 13, 14, 15, 16, 17, 18, 19, 20, 21, 22, 23, 24, 25, 26, 27, 28, 29, 30, 31, 32, 33, 34, 35, 36, 37, 38, 39, 40, 41, 42, 43, 44, 45, 46, 47, 48, 49, 50, 51, 52, 53, 54, 55, 56, 57, 58, 59, 60, 61, 62, 63, 64, 65, 66, 67, 68, 69, 70, 71, 72, 73, 74, 75, 76, 77, 78, 79, 80, 81, 82, 83, 84, 85, 86, 87, 88, 89, 90, 91, 92, 93, 94, 95, 96, 97, 98, 99, 100, 101, 102, 103, 104, 105, 106, 107, 108, 109, 110, 111, 138, 139, 140, 141, 142, 143, 144, 145, 146, 147, 148, 149, 150, 151, 152, 153, 154, 155, 156, 157, 158, 159, 160, 161, 162, 163, 164, 165, 166, 167, 168, 169, 170, 171, 172, 173, 174, 175, 176, 177, 178, 179, 180, 181, 182, 183, 184, 185, 186, 187, 188, 189] (by decide +kernel) (by decide +kernel)
set_option maxRecDepth 20000 in
theorem gX9_credit_X2_prepare : GoodIn wsX9_credit (wsV RX9 33 RX2 yX2_prepare wsX2_prepare) := goodIn_app (goodIn_of _ (by decide +kernel)) ggX9_credit_X2_prepare
set_option maxRecDepth 20000 in
theorem ggX9_credit_X8_addCredit : GoodIn wsX9_credit wsX8_addCredit := goodIn_r _ [115, 116, 117, 118, 119, 120, 121, 22, 122, 28, 29, 123, 124, 125, 176, 177, 178, 179, 180, 141, 142, 143, 144, 145, 146, 147, 148, 149, 150, 151] (by decide +kernel) (by decide +kernel)
set_option maxRecDepth 20000 in
theorem gX9_credit_X8_addCredit : GoodIn wsX9_credit (wsV RX9 52 RX8 yX8_addCredit wsX8_addCredit) := goodIn_app (goodIn_of _ (by decide +kernel)) ggX9_credit_X8_addCredit
set_option maxRecDepth 20000 in
theorem ggX9_credit_X9_recorded : GoodIn wsX9_credit wsX9_recorded := goodIn_r _ [129, 1, 130, 131, 132, 6, 133, 9, 14, 10, 11, 12, 13, 15, 16, 17, 18, 134, 135, 136, 137, 138, 139, 140] (by decide +kernel) (by decide +kernel)
set_option maxRecDepth 20000 in
theorem gX9_credit_X9_recorded : GoodIn wsX9_credit (wsV RX9 41 RX9 yX9_recorded wsX9_recorded) := goodIn_app (goodIn_of _ (by decide +kernel)) ggX9_credit_X9_recorded
theorem dX9_credit_0 : decode cX9_credit 0 = .ok (.aload_n 0, 1) := by decide +kernel
theorem dX9_credit_1 : decode cX9_credit 1 = .ok (.getfield 22, 3) := by decide +kernel
theorem dX9_credit_4 : decode cX9_credit 4 = .ok (.aload_n 0, 1) := by decide +kernel
theorem dX9_credit_5 : decode cX9_credit 5 = .ok (.getfield 10, 3) := by decide +kernel
theorem dX9_credit_8 : decode cX9_credit 8 = .ok (.invokevirtual 33, 3) := by decide +kernel
theorem dX9_credit_11 : decode cX9_credit 11 = .ok (.aload_n 0, 1) := by decide +kernel
theorem dX9_credit_12 : decode cX9_credit 12 = .ok (.aload_n 0, 1) := by decide +kernel
theorem dX9_credit_13 : decode cX9_credit 13 = .ok (.getfield 10, 3) := by decide +kernel
theorem dX9_credit_16 : decode cX9_credit 16 = .ok (.iload_n 1, 1) := by decide +kernel
theorem dX9_credit_17 : decode cX9_credit 17 = .ok (.iload_n 2, 1) := by decide +kernel
theorem dX9_credit_18 : decode cX9_credit 18 = .ok (.invokevirtual 52, 3) := by decide +kernel
theorem dX9_credit_21 : decode cX9_credit 21 = .ok (.invokevirtual 41, 3) := by decide +kernel
theorem dX9_credit_24 : decode cX9_credit 24 = .ok (.ireturn, 1) := by decide +kernel
set_option maxRecDepth 20000 in
theorem ggX9_addPass_X2_prepare : GoodIn wsX9_addPass wsX2_prepare := goodIn_r _ [7, 8, 9, 10, 11, 12, 6, 13, 14, 15, 16, 17, 18, 19, 20, 21, 22, 23, 24, 25, 26, 27, 28, 29, 30, 31, 32, 33, 34, 35, 36, 37, 38, 39, 40, 41, 42, 43, 44, 45, 46, 47, 48, 49, 50, 51, 52, 53, 54, 55, 56, 57, 58, 59, 60, 61, 62, 63, 64, 65, 66, 67, 68, 69, 70, 71, 72, 73, 74, 75, 76, 77, 78, 79, 80, 81, 82, 83, 84, 85, 86, 87, 88, 89, 90, 91, 92, 93, 94, 95, 96, 97, 98, 99, 100, 101, 102, 103, 104, 105, 106, 107, 108, 109, 110, 111, 138, 139, 140, 141, 142, 143, 144, 145, 146, 147, 148, 149, 150, 151, 152, 153, 154, 155, 156, 157, 158, 159, 160, 161, 162, 163, 164, 165, 166, 167, 168, 169, 170, 171, 172, 173, 174, 175, 176, 177, 178, 179, 180, 181, 182, 183, 184, 185, 186, 187, 188, 189] (by decide +kernel) (by decide +kernel)
set_option maxRecDepth 20000 in
theorem gX9_addPass_X2_prepare : GoodIn wsX9_addPass (wsV RX9 33 RX2 yX2_prepare wsX2_prepare) := goodIn_app (goodIn_of _ (by decide +kernel)) ggX9_addPass_X2_prepare
set_option maxRecDepth 20000 in
theorem ggX9_addPass_X8_newPass : GoodIn wsX9_addPass wsX8_newPass := goodIn_r _ [115, 30, 31, 116, 117, 118, 119, 22, 120, 28, 29, 121, 122, 123, 95, 124, 97, 98, 99, 141, 142, 143, 144, 145, 146, 147, 148, 149, 150, 151, 176, 177, 178, 179, 180, 181, 182, 183] (by decide +kernel) (by decide +kernel)
set_option maxRecDepth 20000 in
theorem gX9_addPass_X8_newPass : GoodIn wsX9_addPass (wsV RX9 55 RX8 yX8_newPass wsX8_newPass) := goodIn_app (goodIn_of _ (by decide +kernel)) ggX9_addPass_X8_newPass
set_option maxRecDepth 20000 in
theorem ggX9_addPass_X9_recorded : GoodIn wsX9_addPass wsX9_recorded := goodIn_r _ [129, 1, 130, 131, 132, 6, 133, 9, 14, 10, 11, 12, 13, 15, 16, 17, 18, 134, 135, 136, 137, 138, 139, 140] (by decide +kernel) (by decide +kernel)
set_option maxRecDepth 20000 in
theorem gX9_addPass_X9_recorded : GoodIn wsX9_addPass (wsV RX9 41 RX9 yX9_recorded wsX9_recorded) := goodIn_app (goodIn_of _ (by decide +kernel)) ggX9_addPass_X9_recorded
theorem dX9_addPass_0 : decode cX9_addPass 0 = .ok (.aload_n 0, 1) := by decide +kernel
theorem dX9_addPass_1 : decode cX9_addPass 1 = .ok (.getfield 22, 3) := by decide +kernel
theorem dX9_addPass_4 : decode cX9_addPass 4 = .ok (.aload_n 0, 1) := by decide +kernel
theorem dX9_addPass_5 : decode cX9_addPass 5 = .ok (.getfield 10, 3) := by decide +kernel
theorem dX9_addPass_8 : decode cX9_addPass 8 = .ok (.invokevirtual 33, 3) := by decide +kernel
theorem dX9_addPass_11 : decode cX9_addPass 11 = .ok (.aload_n 0, 1) := by decide +kernel
theorem dX9_addPass_12 : decode cX9_addPass 12 = .ok (.aload_n 0, 1) := by decide +kernel
theorem dX9_addPass_13 : decode cX9_addPass 13 = .ok (.getfield 10, 3) := by decide +kernel
theorem dX9_addPass_16 : decode cX9_addPass 16 = .ok (.iload_n 1, 1) := by decide +kernel
theorem dX9_addPass_17 : decode cX9_addPass 17 = .ok (.invokevirtual 55, 3) := by decide +kernel
theorem dX9_addPass_20 : decode cX9_addPass 20 = .ok (.invokevirtual 41, 3) := by decide +kernel
theorem dX9_addPass_23 : decode cX9_addPass 23 = .ok (.ireturn, 1) := by decide +kernel
set_option maxRecDepth 20000 in
theorem ggX9_block_X2_prepare : GoodIn wsX9_block wsX2_prepare := goodIn_r _ [7, 8, 9, 10, 11, 12, 6, 13, 14, 15, 16, 17, 18, 19, 20, 21, 22, 23, 24, 25, 26, 27, 28, 29, 30, 31, 32, 33, 34, 35, 36, 37, 38, 39, 40, 41, 42, 43, 44, 45, 46, 47, 48, 49, 50, 51, 52, 53, 54, 55, 56, 57, 58, 59, 60, 61, 62, 63, 64, 65, 66, 67, 68, 69, 70, 71, 72, 73, 74, 75, 76, 77, 78, 79, 80, 81, 82, 83, 84, 85, 86, 87, 88, 89, 90, 91, 92, 93, 94, 95, 96, 97, 98, 99, 100, 101, 102, 103, 104, 105, 106, 107, 108, 109, 110, 111, 134, 135, 136, 137, 138, 139, 140, 141, 142, 143, 144, 145, 146, 147, 148, 149, 150, 151, 152, 153, 154, 155, 156, 157, 158, 159, 160, 161, 162, 163, 164, 165, 166, 167, 168, 169, 170, 171, 172, 173, 174, 175, 176, 177, 178, 179, 180, 181, 182, 183, 184, 185] (by decide +kernel) (by decide +kernel)
set_option maxRecDepth 20000 in
theorem gX9_block_X2_prepare : GoodIn wsX9_block (wsV RX9 33 RX2 yX2_prepare wsX2_prepare) := goodIn_app (goodIn_of _ (by decide +kernel)) ggX9_block_X2_prepare
set_option maxRecDepth 20000 in
theorem ggX9_block_X8_markPass : GoodIn wsX9_block wsX8_markPass := goodIn_r _ [115, 116, 30, 31, 117, 118, 119, 22, 120, 177, 178, 179, 137, 138, 139, 140, 141, 142, 143, 144, 145, 146, 147] (by decide +kernel) (by decide +kernel)
set_option maxRecDepth 20000 in
theorem gX9_block_X8_markPass : GoodIn wsX9_block (wsV RX9 58 RX8 yX8_markPass wsX8_markPass) := goodIn_app (goodIn_of _ (by decide +kernel)) ggX9_block_X8_markPass
set_option maxRecDepth 20000 in
theorem ggX9_block_X9_recorded : GoodIn wsX9_block wsX9_recorded := goodIn_r _ [125, 1, 126, 127, 128, 6, 129, 9, 14, 10, 11, 12, 13, 15, 16, 17, 18, 130, 131, 132, 133, 134, 135, 136] (by decide +kernel) (by decide +kernel)
set_option maxRecDepth 20000 in
theorem gX9_block_X9_recorded : GoodIn wsX9_block (wsV RX9 41 RX9 yX9_recorded wsX9_recorded) := goodIn_app (goodIn_of _ (by decide +kernel)) ggX9_block_X9_recorded
theorem dX9_block_0 : decode cX9_block 0 = .ok (.aload_n 0, 1) := by decide +kernel
theorem dX9_block_1 : decode cX9_block 1 = .ok (.getfield 22, 3) := by decide +kernel
theorem dX9_block_4 : decode cX9_block 4 = .ok (.aload_n 0, 1) := by decide +kernel
theorem dX9_block_5 : decode cX9_block 5 = .ok (.getfield 10, 3) := by decide +kernel
theorem dX9_block_8 : decode cX9_block 8 = .ok (.invokevirtual 33, 3) := by decide +kernel
theorem dX9_block_11 : decode cX9_block 11 = .ok (.aload_n 0, 1) := by decide +kernel
theorem dX9_block_12 : decode cX9_block 12 = .ok (.aload_n 0, 1) := by decide +kernel
theorem dX9_block_13 : decode cX9_block 13 = .ok (.getfield 10, 3) := by decide +kernel
theorem dX9_block_16 : decode cX9_block 16 = .ok (.iload_n 1, 1) := by decide +kernel
theorem dX9_block_17 : decode cX9_block 17 = .ok (.iload_n 2, 1) := by decide +kernel
theorem dX9_block_18 : decode cX9_block 18 = .ok (.invokevirtual 58, 3) := by decide +kernel
theorem dX9_block_21 : decode cX9_block 21 = .ok (.invokevirtual 41, 3) := by decide +kernel
theorem dX9_block_24 : decode cX9_block 24 = .ok (.ireturn, 1) := by decide +kernel
set_option maxRecDepth 20000 in
theorem ggX9_setFare_X2_prepare : GoodIn wsX9_setFare wsX2_prepare := goodIn_r _ [7, 8, 9, 10, 11, 12, 6, 13, 14, 15, 16, 17, 18, 19, 20, 21, 22, 23, 24, 25, 26, 27, 28, 29, 30, 31, 32, 33, 34, 35, 36, 37, 38, 39, 40, 41, 42, 43, 44, 45, 46, 47, 48, 49, 50, 51, 52, 53, 54, 55, 56, 57, 58, 59, 60, 61, 62, 63, 64, 65, 66, 67, 68, 69, 70, 71, 72, 73, 74, 75, 76, 77, 78, 79, 80, 81, 82, 83, 84, 85, 86, 87, 88, 89, 90, 91, 92, 93, 94, 95, 96, 97, 98, 99, 100, 101, 102, 103, 104, 105, 106, 107, 108, 109, 110, 111, 131, 132, 133, 134, 135, 136, 137, 138, 139, 140, 141, 142, 143, 144, 145, 146, 147, 148, 149, 150, 151, 152, 153, 154, 155, 156, 157, 158, 159, 160, 161, 162, 163, 164, 165, 166, 167, 168, 169, 170, 171, 172, 173, 174, 175, 176, 177, 178, 179, 180, 181, 182] (by decide +kernel) (by decide +kernel)
set_option maxRecDepth 20000 in
theorem gX9_setFare_X2_prepare : GoodIn wsX9_setFare (wsV RX9 33 RX2 yX2_prepare wsX2_prepare) := goodIn_app (goodIn_of _ (by decide +kernel)) ggX9_setFare_X2_prepare
set_option maxRecDepth 20000 in
theorem ggX9_setFare_X8_changeFare : GoodIn wsX9_setFare wsX8_changeFare := goodIn_r _ [115, 34, 116, 117, 118, 134, 135, 136, 137, 138, 139, 140, 141, 142, 143, 144] (by decide +kernel) (by decide +kernel)
set_option maxRecDepth 20000 in
theorem gX9_setFare_X8_changeFare : GoodIn wsX9_setFare (wsV RX9 62 RX8 yX8_changeFare wsX8_changeFare) := goodIn_app (goodIn_of _ (by decide +kernel)) ggX9_setFare_X8_changeFare
set_option maxRecDepth 20000 in
theorem ggX9_setFare_X9_recorded : GoodIn wsX9_setFare wsX9_recorded := goodIn_r _ [122, 1, 123, 124, 125, 6, 126, 9, 14, 10, 11, 12, 13, 15, 16, 17, 18, 127, 128, 129, 130, 131, 132, 133] (by decide +kernel) (by decide +kernel)
set_option maxRecDepth 20000 in
theorem gX9_setFare_X9_recorded : GoodIn wsX9_setFare (wsV RX9 41 RX9 yX9_recorded wsX9_recorded) := goodIn_app (goodIn_of _ (by decide +kernel)) ggX9_setFare_X9_recorded
theorem dX9_setFare_0 : decode cX9_setFare 0 = .ok (.aload_n 0, 1) := by decide +kernel
theorem dX9_setFare_1 : decode cX9_setFare 1 = .ok (.getfield 22, 3) := by decide +kernel
theorem dX9_setFare_4 : decode cX9_setFare 4 = .ok (.aload_n 0, 1) := by decide +kernel
theorem dX9_setFare_5 : decode cX9_setFare 5 = .ok (.getfield 10, 3) := by decide +kernel
theorem dX9_setFare_8 : decode cX9_setFare 8 = .ok (.invokevirtual 33, 3) := by decide +kernel
theorem dX9_setFare_11 : decode cX9_setFare 11 = .ok (.aload_n 0, 1) := by decide +kernel
theorem dX9_setFare_12 : decode cX9_setFare 12 = .ok (.aload_n 0, 1) := by decide +kernel
theorem dX9_setFare_13 : decode cX9_setFare 13 = .ok (.getfield 10, 3) := by decide +kernel
theorem dX9_setFare_16 : decode cX9_setFare 16 = .ok (.iload_n 1, 1) := by decide +kernel
theorem dX9_setFare_17 : decode cX9_setFare 17 = .ok (.invokevirtual 62, 3) := by decide +kernel
theorem dX9_setFare_20 : decode cX9_setFare 20 = .ok (.invokevirtual 41, 3) := by decide +kernel
theorem dX9_setFare_23 : decode cX9_setFare 23 = .ok (.ireturn, 1) := by decide +kernel
set_option maxRecDepth 20000 in
theorem ggX9_enter_X2_prepare : GoodIn wsX9_enter wsX2_prepare := goodIn_r _ [7, 8, 9, 10, 11, 12, 6, 13, 14, 15, 16, 17, 18, 19, 20, 21, 22, 23, 24, 25, 26, 27, 28, 29, 30, 31, 32, 33, 34, 35, 36, 37, 38, 39, 40, 41, 42, 43, 44, 45, 46, 47, 48, 49, 50, 51, 52, 53, 54, 55, 56, 57, 58, 59, 60, 61, 62, 63, 64, 65, 66, 67, 68, 69, 70, 71, 72, 73, 74, 75, 76, 77, 78, 79, 80, 81, 82, 83, 84, 85, 86, 87, 88, 89, 90, 91, 92, 93, 94, 95, 96, 97, 98, 99, 100, 101, 102, 103, 104, 105, 106, 107, 108, 109, 110, 111, 150, 151, 152, 153, 154, 155, 156, 157, 158, 159, 160, 161, 162, 163, 164, 165, 166, 167, 168, 169, 170, 171, 172, 173, 174, 175, 176, 177, 178, 179, 180, 181, 182, 183, 184, 185, 186, 187, 188, 189, 190, 191, 192, 193, 194, 195, 196, 197, 198, 199, 200, 201] (by decide +kernel) (by decide +kernel)
set_option maxRecDepth 20000 in
theorem gX9_enter_X2_prepare : GoodIn wsX9_enter (wsV RX9 33 RX2 yX2_prepare wsX2_prepare) := goodIn_app (goodIn_of _ (by decide +kernel)) ggX9_enter_X2_prepare
set_option maxRecDepth 20000 in
theorem ggX9_enter_X8_comeIn : GoodIn wsX9_enter wsX8_comeIn := goodIn_r _ [115, 26, 27, 33, 116, 117, 118, 119, 22, 120, 24, 25, 121, 122, 123, 124, 30, 31, 125, 126, 127, 73, 128, 75, 76, 79, 129, 130, 131, 132, 78, 77, 80, 81, 133, 134, 135, 58, 136, 60, 61, 153, 154, 155, 156, 157, 158, 159, 160, 161, 162, 163, 164, 165, 166, 167, 168, 169, 170, 171, 172, 173, 174, 175, 176, 177, 178, 181, 182, 183, 184, 185, 186, 187, 179, 180] (by decide +kernel) (by decide +kernel)
set_option maxRecDepth 20000 in
theorem gX9_enter_X8_comeIn : GoodIn wsX9_enter (wsV RX9 65 RX8 yX8_comeIn wsX8_comeIn) := goodIn_app (goodIn_of _ (by decide +kernel)) ggX9_enter_X8_comeIn
set_option maxRecDepth 20000 in
theorem ggX9_enter_X9_recorded : GoodIn wsX9_enter wsX9_recorded := goodIn_r _ [141, 1, 142, 143, 144, 6, 145, 9, 14, 10, 11, 12, 13, 15, 16, 17, 18, 146, 147, 148, 149, 150, 151, 152] (by decide +kernel) (by decide +kernel)
set_option maxRecDepth 20000 in
theorem gX9_enter_X9_recorded : GoodIn wsX9_enter (wsV RX9 41 RX9 yX9_recorded wsX9_recorded) := goodIn_app (goodIn_of _ (by decide +kernel)) ggX9_enter_X9_recorded
theorem dX9_enter_0 : decode cX9_enter 0 = .ok (.aload_n 0, 1) := by decide +kernel
theorem dX9_enter_1 : decode cX9_enter 1 = .ok (.getfield 22, 3) := by decide +kernel
theorem dX9_enter_4 : decode cX9_enter 4 = .ok (.aload_n 0, 1) := by decide +kernel
theorem dX9_enter_5 : decode cX9_enter 5 = .ok (.getfield 10, 3) := by decide +kernel
theorem dX9_enter_8 : decode cX9_enter 8 = .ok (.invokevirtual 33, 3) := by decide +kernel
theorem dX9_enter_11 : decode cX9_enter 11 = .ok (.aload_n 0, 1) := by decide +kernel
theorem dX9_enter_12 : decode cX9_enter 12 = .ok (.aload_n 0, 1) := by decide +kernel
theorem dX9_enter_13 : decode cX9_enter 13 = .ok (.getfield 10, 3) := by decide +kernel
theorem dX9_enter_16 : decode cX9_enter 16 = .ok (.iload_n 1, 1) := by decide +kernel
theorem dX9_enter_17 : decode cX9_enter 17 = .ok (.iload_n 2, 1) := by decide +kernel
theorem dX9_enter_18 : decode cX9_enter 18 = .ok (.iload_n 3, 1) := by decide +kernel
theorem dX9_enter_19 : decode cX9_enter 19 = .ok (.invokevirtual 65, 3) := by decide +kernel
theorem dX9_enter_22 : decode cX9_enter 22 = .ok (.invokevirtual 41, 3) := by decide +kernel
theorem dX9_enter_25 : decode cX9_enter 25 = .ok (.ireturn, 1) := by decide +kernel
set_option maxRecDepth 20000 in
theorem ggX9_exit_X2_prepare : GoodIn wsX9_exit wsX2_prepare := goodIn_r _ [7, 8, 9, 10, 11, 12, 6, 13, 14, 15, 16, 17, 18, 19, 20, 21, 22, 23, 24, 25, 26, 27, 28, 29, 30, 31, 32, 33, 34, 35, 36, 37, 38, 39, 40, 41, 42, 43, 44, 45, 46, 47, 48, 49, 50, 51, 52, 53, 54, 55, 56, 57, 58, 59, 60, 61, 62, 63, 64, 65, 66, 67, 68, 69, 70, 71, 72, 73, 74, 75, 76, 77, 78, 79, 80, 81, 82, 83, 84, 85, 86, 87, 88, 89, 90, 91, 92, 93, 94, 95, 96, 97, 98, 99, 100, 101, 102, 103, 104, 105, 106, 107, 108, 109, 110, 111, 148, 149, 150, 151, 152, 153, 154, 155, 156, 157, 158, 159, 160, 161, 162, 163, 164, 165, 166, 167, 168, 169, 170, 171, 172, 173, 174, 175, 176, 177, 178, 179, 180, 181, 182, 183, 184, 185, 186, 187, 188, 189, 190, 191, 192, 193, 194, 195, 196, 197, 198, 199] (by decide +kernel) (by decide +kernel)
set_option maxRecDepth 20000 in
theorem gX9_exit_X2_prepare : GoodIn wsX9_exit (wsV RX9 33 RX2 yX2_prepare wsX2_prepare) := goodIn_app (goodIn_of _ (by decide +kernel)) ggX9_exit_X2_prepare
set_option maxRecDepth 20000 in
theorem ggX9_exit_X8_goOut : GoodIn wsX9_exit wsX8_goOut := goodIn_r _ [115, 116, 33, 117, 118, 119, 120, 121, 22, 122, 24, 25, 123, 124, 125, 126, 26, 27, 127, 128, 129, 73, 130, 78, 77, 80, 81, 131, 132, 133, 58, 134, 60, 61, 179, 180, 181, 182, 183, 184, 185, 151, 152, 153, 154, 155, 156, 157, 158, 159, 160, 161, 162, 163, 164, 165, 166, 167, 168, 169, 170, 171, 172, 173, 174, 175, 176, 177, 178] (by decide +kernel) (by decide +kernel)
set_option maxRecDepth 20000 in
theorem gX9_exit_X8_goOut : GoodIn wsX9_exit (wsV RX9 69 RX8 yX8_goOut wsX8_goOut) := goodIn_app (goodIn_of _ (by decide +kernel)) ggX9_exit_X8_goOut
set_option maxRecDepth 20000 in
theorem ggX9_exit_X9_recorded : GoodIn wsX9_exit wsX9_recorded := goodIn_r _ [139, 1, 140, 141, 142, 6, 143, 9, 14, 10, 11, 12, 13, 15, 16, 17, 18, 144, 145, 146, 147, 148, 149, 150] (by decide +kernel) (by decide +kernel)
set_option maxRecDepth 20000 in
theorem gX9_exit_X9_recorded : GoodIn wsX9_exit (wsV RX9 41 RX9 yX9_recorded wsX9_recorded) := goodIn_app (goodIn_of _ (by decide +kernel)) ggX9_exit_X9_recorded
theorem dX9_exit_0 : decode cX9_exit 0 = .ok (.aload_n 0, 1) := by decide +kernel
theorem dX9_exit_1 : decode cX9_exit 1 = .ok (.getfield 22, 3) := by decide +kernel
theorem dX9_exit_4 : decode cX9_exit 4 = .ok (.aload_n 0, 1) := by decide +kernel
theorem dX9_exit_5 : decode cX9_exit 5 = .ok (.getfield 10, 3) := by decide +kernel
theorem dX9_exit_8 : decode cX9_exit 8 = .ok (.invokevirtual 33, 3) := by decide +kernel
theorem dX9_exit_11 : decode cX9_exit 11 = .ok (.aload_n 0, 1) := by decide +kernel
theorem dX9_exit_12 : decode cX9_exit 12 = .ok (.aload_n 0, 1) := by decide +kernel
theorem dX9_exit_13 : decode cX9_exit 13 = .ok (.getfield 10, 3) := by decide +kernel
theorem dX9_exit_16 : decode cX9_exit 16 = .ok (.iload_n 1, 1) := by decide +kernel
theorem dX9_exit_17 : decode cX9_exit 17 = .ok (.iload_n 2, 1) := by decide +kernel
theorem dX9_exit_18 : decode cX9_exit 18 = .ok (.invokevirtual 69, 3) := by decide +kernel
theorem dX9_exit_21 : decode cX9_exit 21 = .ok (.invokevirtual 41, 3) := by decide +kernel
theorem dX9_exit_24 : decode cX9_exit 24 = .ok (.ireturn, 1) := by decide +kernel
set_option maxRecDepth 20000 in
theorem ggX9_divert_X2_prepare : GoodIn wsX9_divert wsX2_prepare := goodIn_r _ [7, 8, 9, 10, 11, 12, 6, 13, 14, 15, 16, 17, 18, 19, 20, 21, 22, 23, 24, 25, 26, 27, 28, 29, 30, 31, 32, 33, 34, 35, 36, 37, 38, 39, 40, 41, 42, 43, 44, 45, 46, 47, 48, 49, 50, 51, 52, 53, 54, 55, 56, 57, 58, 59, 60, 61, 62, 63, 64, 65, 66, 67, 68, 69, 70, 71, 72, 73, 74, 75, 76, 77, 78, 79, 80, 81, 82, 83, 84, 85, 86, 87, 88, 89, 90, 91, 92, 93, 94, 95, 96, 97, 98, 99, 100, 101, 102, 103, 104, 105, 106, 107, 108, 109, 110, 111, 158, 159, 160, 161, 162, 163, 164, 165, 166, 167, 168, 169, 170, 171, 172, 173, 174, 175, 176, 177, 178, 179, 180, 181, 182, 183, 184, 185, 186, 187, 188, 189, 190, 191, 192, 193, 194, 195, 196, 197, 198, 199, 200, 201, 202, 203, 204, 205, 206, 207, 208, 209] (by decide +kernel) (by decide +kernel)
set_option maxRecDepth 20000 in
theorem gX9_divert_X2_prepare : GoodIn wsX9_divert (wsV RX9 33 RX2 yX2_prepare wsX2_prepare) := goodIn_app (goodIn_of _ (by decide +kernel)) ggX9_divert_X2_prepare
set_option maxRecDepth 20000 in
theorem ggX9_divert_X8_moveQueues : GoodIn wsX9_divert wsX8_moveQueues := goodIn_r _ [115, 116, 117, 118, 119, 120, 22, 121, 24, 25, 122, 123, 124, 38, 125, 40, 126, 41, 127, 128, 129, 130, 131, 132, 133, 134, 135, 58, 136, 60, 61, 137, 138, 139, 140, 26, 27, 141, 142, 143, 144, 172, 173, 174, 175, 176, 177, 178, 179, 180, 181, 182, 183, 184, 185, 186, 161, 162, 163, 164, 165, 166, 167, 168, 169, 170, 171, 187, 188, 189, 190, 191, 192, 193, 194, 195] (by decide +kernel) (by decide +kernel)
set_option maxRecDepth 20000 in
theorem gX9_divert_X8_moveQueues : GoodIn wsX9_divert (wsV RX9 72 RX8 yX8_moveQueues wsX8_moveQueues) := goodIn_app (goodIn_of _ (by decide +kernel)) ggX9_divert_X8_moveQueues
set_option maxRecDepth 20000 in
theorem ggX9_divert_X9_recorded : GoodIn wsX9_divert wsX9_recorded := goodIn_r _ [149, 1, 150, 151, 152, 6, 153, 9, 14, 10, 11, 12, 13, 15, 16, 17, 18, 154, 155, 156, 157, 158, 159, 160] (by decide +kernel) (by decide +kernel)
set_option maxRecDepth 20000 in
theorem gX9_divert_X9_recorded : GoodIn wsX9_divert (wsV RX9 41 RX9 yX9_recorded wsX9_recorded) := goodIn_app (goodIn_of _ (by decide +kernel)) ggX9_divert_X9_recorded
theorem dX9_divert_0 : decode cX9_divert 0 = .ok (.aload_n 0, 1) := by decide +kernel
theorem dX9_divert_1 : decode cX9_divert 1 = .ok (.getfield 22, 3) := by decide +kernel
theorem dX9_divert_4 : decode cX9_divert 4 = .ok (.aload_n 0, 1) := by decide +kernel
theorem dX9_divert_5 : decode cX9_divert 5 = .ok (.getfield 10, 3) := by decide +kernel
theorem dX9_divert_8 : decode cX9_divert 8 = .ok (.invokevirtual 33, 3) := by decide +kernel
theorem dX9_divert_11 : decode cX9_divert 11 = .ok (.aload_n 0, 1) := by decide +kernel
theorem dX9_divert_12 : decode cX9_divert 12 = .ok (.aload_n 0, 1) := by decide +kernel
theorem dX9_divert_13 : decode cX9_divert 13 = .ok (.getfield 10, 3) := by decide +kernel
theorem dX9_divert_16 : decode cX9_divert 16 = .ok (.iload_n 1, 1) := by decide +kernel
theorem dX9_divert_17 : decode cX9_divert 17 = .ok (.iload_n 2, 1) := by decide +kernel
theorem dX9_divert_18 : decode cX9_divert 18 = .ok (.invokevirtual 72, 3) := by decide +kernel
theorem dX9_divert_21 : decode cX9_divert 21 = .ok (.invokevirtual 41, 3) := by decide +kernel
theorem dX9_divert_24 : decode cX9_divert 24 = .ok (.ireturn, 1) := by decide +kernel
set_option maxRecDepth 20000 in
theorem ggX9_pinch_X2_prepare : GoodIn wsX9_pinch wsX2_prepare := goodIn_r _ [7, 8, 9, 10, 11, 12, 6, 13, 14, 15, 16, 17, 18, 19, 20, 21, 22, 23, 24, 25, 26, 27, 28, 29, 30, 31, 32, 33, 34, 35, 36, 37, 38, 39, 40, 41, 42, 43, 44, 45, 46, 47, 48, 49, 50, 51, 52, 53, 54, 55, 56, 57, 58, 59, 60, 61, 62, 63, 64, 65, 66, 67, 68, 69, 70, 71, 72, 73, 74, 75, 76, 77, 78, 79, 80, 81, 82, 83, 84, 85, 86, 87, 88, 89, 90, 91, 92, 93, 94, 95, 96, 97, 98, 99, 100, 101, 102, 103, 104, 105, 106, 107, 108, 109, 110, 111, 135, 136, 137, 138, 139, 140, 141, 142, 143, 144, 145, 146, 147, 148, 149, 150, 151, 152, 153, 154, 155, 156, 157, 158, 159, 160, 161, 162, 163, 164, 165, 166, 167, 168, 169, 170, 171, 172, 173, 174, 175, 176, 177, 178, 179, 180, 181, 182, 183, 184, 185, 186] (by decide +kernel) (by decide +kernel)
set_option maxRecDepth 20000 in
theorem gX9_pinch_X2_prepare : GoodIn wsX9_pinch (wsV RX9 33 RX2 yX2_prepare wsX2_prepare) := goodIn_app (goodIn_of _ (by decide +kernel)) ggX9_pinch_X2_prepare
set_option maxRecDepth 20000 in
theorem ggX9_pinch_X8_tellPinch : GoodIn wsX9_pinch wsX8_tellPinch := goodIn_r _ [115, 116, 117, 118, 119, 120, 22, 121, 24, 25, 149, 150, 151, 152, 153, 154, 155, 156, 157, 158, 159, 160, 161, 162, 163, 138, 139, 140, 141, 142, 143, 144, 145, 146, 147, 148] (by decide +kernel) (by decide +kernel)
set_option maxRecDepth 20000 in
theorem gX9_pinch_X8_tellPinch : GoodIn wsX9_pinch (wsV RX9 75 RX8 yX8_tellPinch wsX8_tellPinch) := goodIn_app (goodIn_of _ (by decide +kernel)) ggX9_pinch_X8_tellPinch
set_option maxRecDepth 20000 in
theorem ggX9_pinch_X9_recorded : GoodIn wsX9_pinch wsX9_recorded := goodIn_r _ [126, 1, 127, 128, 129, 6, 130, 9, 14, 10, 11, 12, 13, 15, 16, 17, 18, 131, 132, 133, 134, 135, 136, 137] (by decide +kernel) (by decide +kernel)
set_option maxRecDepth 20000 in
theorem gX9_pinch_X9_recorded : GoodIn wsX9_pinch (wsV RX9 41 RX9 yX9_recorded wsX9_recorded) := goodIn_app (goodIn_of _ (by decide +kernel)) ggX9_pinch_X9_recorded
theorem dX9_pinch_0 : decode cX9_pinch 0 = .ok (.aload_n 0, 1) := by decide +kernel
theorem dX9_pinch_1 : decode cX9_pinch 1 = .ok (.getfield 22, 3) := by decide +kernel
theorem dX9_pinch_4 : decode cX9_pinch 4 = .ok (.aload_n 0, 1) := by decide +kernel
theorem dX9_pinch_5 : decode cX9_pinch 5 = .ok (.getfield 10, 3) := by decide +kernel
theorem dX9_pinch_8 : decode cX9_pinch 8 = .ok (.invokevirtual 33, 3) := by decide +kernel
theorem dX9_pinch_11 : decode cX9_pinch 11 = .ok (.aload_n 0, 1) := by decide +kernel
theorem dX9_pinch_12 : decode cX9_pinch 12 = .ok (.aload_n 0, 1) := by decide +kernel
theorem dX9_pinch_13 : decode cX9_pinch 13 = .ok (.getfield 10, 3) := by decide +kernel
theorem dX9_pinch_16 : decode cX9_pinch 16 = .ok (.iload_n 1, 1) := by decide +kernel
theorem dX9_pinch_17 : decode cX9_pinch 17 = .ok (.invokevirtual 75, 3) := by decide +kernel
theorem dX9_pinch_20 : decode cX9_pinch 20 = .ok (.invokevirtual 41, 3) := by decide +kernel
theorem dX9_pinch_23 : decode cX9_pinch 23 = .ok (.ireturn, 1) := by decide +kernel
set_option maxRecDepth 20000 in
theorem ggX9_fail_X2_prepare : GoodIn wsX9_fail wsX2_prepare := goodIn_r _ [7, 8, 9, 10, 11, 12, 6, 13, 14, 15, 16, 17, 18, 19, 20, 21, 22, 23, 24, 25, 26, 27, 28, 29, 30, 31, 32, 33, 34, 35, 36, 37, 38, 39, 40, 41, 42, 43, 44, 45, 46, 47, 48, 49, 50, 51, 52, 53, 54, 55, 56, 57, 58, 59, 60, 61, 62, 63, 64, 65, 66, 67, 68, 69, 70, 71, 72, 73, 74, 75, 76, 77, 78, 79, 80, 81, 82, 83, 84, 85, 86, 87, 88, 89, 90, 91, 92, 93, 94, 95, 96, 97, 98, 99, 100, 101, 102, 103, 104, 105, 106, 107, 108, 109, 110, 111, 178, 179, 180, 181, 182, 183, 184, 185, 186, 187, 188, 189, 190, 191, 192, 193, 194, 195, 196, 197, 198, 199, 200, 201, 202, 203, 204, 205, 206, 207, 208, 209, 210, 211, 212, 213, 214, 215, 216, 217, 218, 219, 220, 221, 222, 223, 224, 225, 226, 227, 228, 229] (by decide +kernel) (by decide +kernel)
set_option maxRecDepth 20000 in
theorem gX9_fail_X2_prepare : GoodIn wsX9_fail (wsV RX9 33 RX2 yX2_prepare wsX2_prepare) := goodIn_app (goodIn_of _ (by decide +kernel)) ggX9_fail_X2_prepare
set_option maxRecDepth 20000 in
theorem ggX9_fail_X8_putOutOfOrder : GoodIn wsX9_fail wsX8_putOutOfOrder := goodIn_r _ [115, 116, 117, 118, 119, 120, 22, 121, 24, 25, 122, 123, 124, 125, 126, 32, 33, 127, 128, 129, 38, 130, 46, 47, 131, 132, 133, 103, 134, 111, 105, 107, 108, 109, 110, 135, 63, 64, 65, 136, 16, 17, 18, 137, 138, 139, 140, 141, 142, 143, 144, 145, 146, 147, 148, 149, 150, 26, 27, 151, 152, 153, 154, 30, 31, 155, 156, 157, 158, 159, 160, 161, 162, 163, 164, 165, 28, 29, 192, 193, 194, 195, 196, 197, 198, 199, 200, 201, 202, 203, 204, 205, 206, 181, 182, 183, 184, 185, 186, 187, 188, 189, 190, 191, 224, 225, 226, 227, 228, 229, 209, 210, 211, 212, 213, 214, 215, 221, 222, 223, 216, 217, 218, 219, 220] (by decide +kernel) (by decide +kernel)
set_option maxRecDepth 20000 in
theorem gX9_fail_X8_putOutOfOrder : GoodIn wsX9_fail (wsV RX9 78 RX8 yX8_putOutOfOrder wsX8_putOutOfOrder) := goodIn_app (goodIn_of _ (by decide +kernel)) ggX9_fail_X8_putOutOfOrder
set_option maxRecDepth 20000 in
theorem ggX9_fail_X9_isError : GoodIn wsX9_fail wsX9_isError := goodIn_r _ [169] (by decide +kernel) (by decide +kernel)
set_option maxRecDepth 20000 in
theorem gX9_fail_X9_isError : GoodIn wsX9_fail (va_wsS RX9 81 yX9_isError wsX9_isError) := goodIn_app (goodIn_of _ (by decide +kernel)) ggX9_fail_X9_isError
set_option maxRecDepth 20000 in
theorem ggX9_fail_X2_keep : GoodIn wsX9_fail wsX2_keep := goodIn_r _ [173, 9, 14, 10, 11, 12, 6, 13, 15, 16, 17, 18, 178, 179, 180] (by decide +kernel) (by decide +kernel)
set_option maxRecDepth 20000 in
theorem gX9_fail_X2_keep : GoodIn wsX9_fail (wsV RX9 85 RX2 yX2_keep wsX2_keep) := goodIn_app (goodIn_of _ (by decide +kernel)) ggX9_fail_X2_keep
theorem dX9_fail_0 : decode cX9_fail 0 = .ok (.aload_n 0, 1) := by decide +kernel
theorem dX9_fail_1 : decode cX9_fail 1 = .ok (.getfield 22, 3) := by decide +kernel
theorem dX9_fail_4 : decode cX9_fail 4 = .ok (.aload_n 0, 1) := by decide +kernel
theorem dX9_fail_5 : decode cX9_fail 5 = .ok (.getfield 10, 3) := by decide +kernel
theorem dX9_fail_8 : decode cX9_fail 8 = .ok (.invokevirtual 33, 3) := by decide +kernel
theorem dX9_fail_11 : decode cX9_fail 11 = .ok (.aload_n 0, 1) := by decide +kernel
theorem dX9_fail_12 : decode cX9_fail 12 = .ok (.getfield 10, 3) := by decide +kernel
theorem dX9_fail_15 : decode cX9_fail 15 = .ok (.iload_n 1, 1) := by decide +kernel
theorem dX9_fail_16 : decode cX9_fail 16 = .ok (.invokevirtual 78, 3) := by decide +kernel
theorem dX9_fail_19 : decode cX9_fail 19 = .ok (.istore_n 2, 1) := by decide +kernel
theorem dX9_fail_20 : decode cX9_fail 20 = .ok (.iload_n 2, 1) := by decide +kernel
theorem dX9_fail_21 : decode cX9_fail 21 = .ok (.invokestatic 81, 3) := by decide +kernel
theorem dX9_fail_24 : decode cX9_fail 24 = .ok (.ifCond .ne 10, 3) := by decide +kernel
theorem dX9_fail_27 : decode cX9_fail 27 = .ok (.aload_n 0, 1) := by decide +kernel
theorem dX9_fail_28 : decode cX9_fail 28 = .ok (.getfield 22, 3) := by decide +kernel
theorem dX9_fail_31 : decode cX9_fail 31 = .ok (.invokevirtual 85, 3) := by decide +kernel
theorem dX9_fail_34 : decode cX9_fail 34 = .ok (.iload_n 2, 1) := by decide +kernel
theorem dX9_fail_35 : decode cX9_fail 35 = .ok (.ireturn, 1) := by decide +kernel
set_option maxRecDepth 20000 in
theorem ggX9_repair_X2_prepare : GoodIn wsX9_repair wsX2_prepare := goodIn_r _ [7, 8, 9, 10, 11, 12, 6, 13, 14, 15, 16, 17, 18, 19, 20, 21, 22, 23, 24, 25, 26, 27, 28, 29, 30, 31, 32, 33, 34, 35, 36, 37, 38, 39, 40, 41, 42, 43, 44, 45, 46, 47, 48, 49, 50, 51, 52, 53, 54, 55, 56, 57, 58, 59, 60, 61, 62, 63, 64, 65, 66, 67, 68, 69, 70, 71, 72, 73, 74, 75, 76, 77, 78, 79, 80, 81, 82, 83, 84, 85, 86, 87, 88, 89, 90, 91, 92, 93, 94, 95, 96, 97, 98, 99, 100, 101, 102, 103, 104, 105, 106, 107, 108, 109, 110, 111, 150, 151, 152, 153, 154, 155, 156, 157, 158, 159, 160, 161, 162, 163, 164, 165, 166, 167, 168, 169, 170, 171, 172, 173, 174, 175, 176, 177, 178, 179, 180, 181, 182, 183, 184, 185, 186, 187, 188, 189, 190, 191, 192, 193, 194, 195, 196, 197, 198, 199, 200, 201] (by decide +kernel) (by decide +kernel)
set_option maxRecDepth 20000 in
theorem gX9_repair_X2_prepare : GoodIn wsX9_repair (wsV RX9 33 RX2 yX2_prepare wsX2_prepare) := goodIn_app (goodIn_of _ (by decide +kernel)) ggX9_repair_X2_prepare
set_option maxRecDepth 20000 in
theorem ggX9_repair_X8_putInOrder : GoodIn wsX9_repair wsX8_putInOrder := goodIn_r _ [115, 116, 117, 32, 33, 118, 119, 120, 22, 121, 24, 25, 122, 123, 124, 38, 125, 46, 47, 126, 127, 128, 103, 129, 111, 105, 107, 108, 109, 110, 130, 63, 64, 65, 131, 16, 17, 18, 132, 133, 134, 135, 40, 136, 41, 164, 165, 166, 167, 168, 169, 170, 171, 172, 173, 174, 175, 176, 177, 178, 153, 154, 155, 156, 157, 158, 159, 160, 161, 162, 163, 196, 197, 198, 199, 200, 201, 179, 180] (by decide +kernel) (by decide +kernel)
set_option maxRecDepth 20000 in
theorem gX9_repair_X8_putInOrder : GoodIn wsX9_repair (wsV RX9 88 RX8 yX8_putInOrder wsX8_putInOrder) := goodIn_app (goodIn_of _ (by decide +kernel)) ggX9_repair_X8_putInOrder
set_option maxRecDepth 20000 in
theorem ggX9_repair_X9_recorded : GoodIn wsX9_repair wsX9_recorded := goodIn_r _ [141, 1, 142, 143, 144, 6, 145, 9, 14, 10, 11, 12, 13, 15, 16, 17, 18, 146, 147, 148, 149, 150, 151, 152] (by decide +kernel) (by decide +kernel)
set_option maxRecDepth 20000 in
theorem gX9_repair_X9_recorded : GoodIn wsX9_repair (wsV RX9 41 RX9 yX9_recorded wsX9_recorded) := goodIn_app (goodIn_of _ (by decide +kernel)) ggX9_repair_X9_recorded
theorem dX9_repair_0 : decode cX9_repair 0 = .ok (.aload_n 0, 1) := by decide +kernel
theorem dX9_repair_1 : decode cX9_repair 1 = .ok (.getfield 22, 3) := by decide +kernel
theorem dX9_repair_4 : decode cX9_repair 4 = .ok (.aload_n 0, 1) := by decide +kernel
theorem dX9_repair_5 : decode cX9_repair 5 = .ok (.getfield 10, 3) := by decide +kernel
theorem dX9_repair_8 : decode cX9_repair 8 = .ok (.invokevirtual 33, 3) := by decide +kernel
theorem dX9_repair_11 : decode cX9_repair 11 = .ok (.aload_n 0, 1) := by decide +kernel
theorem dX9_repair_12 : decode cX9_repair 12 = .ok (.aload_n 0, 1) := by decide +kernel
theorem dX9_repair_13 : decode cX9_repair 13 = .ok (.getfield 10, 3) := by decide +kernel
theorem dX9_repair_16 : decode cX9_repair 16 = .ok (.iload_n 1, 1) := by decide +kernel
theorem dX9_repair_17 : decode cX9_repair 17 = .ok (.invokevirtual 88, 3) := by decide +kernel
theorem dX9_repair_20 : decode cX9_repair 20 = .ok (.invokevirtual 41, 3) := by decide +kernel
theorem dX9_repair_23 : decode cX9_repair 23 = .ok (.ireturn, 1) := by decide +kernel
set_option maxRecDepth 20000 in
theorem ggX9_pass_X2_prepare : GoodIn wsX9_pass wsX2_prepare := goodIn_r _ [7, 8, 9, 10, 11, 12, 6, 13, 14, 15, 16, 17, 18, 19, 20, 21, 22, 23, 24, 25, 26, 27, 28, 29, 30, 31, 32, 33, 34, 35, 36, 37, 38, 39, 40, 41, 42, 43, 44, 45, 46, 47, 48, 49, 50, 51, 52, 53, 54, 55, 56, 57, 58, 59, 60, 61, 62, 63, 64, 65, 66, 67, 68, 69, 70, 71, 72, 73, 74, 75, 76, 77, 78, 79, 80, 81, 82, 83, 84, 85, 86, 87, 88, 89, 90, 91, 92, 93, 94, 95, 96, 97, 98, 99, 100, 101, 102, 103, 104, 105, 106, 107, 108, 109, 110, 111, 237, 238, 239, 240, 241, 242, 243, 244, 245, 246, 247, 248, 249, 250, 251, 252, 253, 254, 255, 256, 257, 258, 259, 260, 261, 262, 263, 264, 265, 266, 267, 268, 269, 270, 271, 272, 273, 274, 275, 276, 277, 278, 279, 280, 281, 282, 283, 284, 285, 286, 287, 288] (by decide +kernel) (by decide +kernel)
set_option maxRecDepth 20000 in
theorem gX9_pass_X2_prepare : GoodIn wsX9_pass (wsV RX9 33 RX2 yX2_prepare wsX2_prepare) := goodIn_app (goodIn_of _ (by decide +kernel)) ggX9_pass_X2_prepare
set_option maxRecDepth 20000 in
theorem ggX9_pass_X8_letTicksGo : GoodIn wsX9_pass wsX8_letTicksGo := goodIn_r _ [115, 24, 25, 33, 116, 117, 118, 119, 120, 121, 22, 122, 123, 124, 125, 126, 127, 128, 129, 130, 131, 132, 133, 32, 134, 135, 136, 137, 138, 139, 140, 141, 142, 143, 144, 145, 146, 147, 148, 58, 149, 60, 61, 150, 151, 152, 153, 26, 27, 154, 155, 156, 157, 66, 67, 68, 69, 158, 159, 160, 161, 162, 163, 164, 165, 166, 167, 34, 168, 169, 170, 171, 30, 31, 172, 173, 174, 175, 28, 29, 176, 177, 178, 73, 179, 77, 78, 79, 180, 181, 182, 103, 183, 111, 105, 107, 108, 109, 110, 184, 63, 64, 65, 185, 16, 17, 18, 186, 187, 188, 189, 190, 191, 192, 193, 38, 194, 46, 47, 195, 196, 197, 198, 199, 200, 201, 202, 203, 204, 205, 206, 207, 208, 209, 210, 211, 212, 213, 214, 215, 216, 217, 218, 219, 220, 221, 222, 223, 224, 240, 241, 242, 243, 244, 245, 246, 247, 248, 249, 250, 251, 252, 253, 254, 255, 256, 257, 258, 259, 260, 261, 262, 263, 264, 265, 268, 269, 270, 271, 272, 273, 274, 266, 267, 280, 281, 282, 275, 276, 277, 278, 279, 283, 284, 285, 286, 287, 288] (by decide +kernel) (by decide +kernel)
set_option maxRecDepth 20000 in
theorem gX9_pass_X8_letTicksGo : GoodIn wsX9_pass (wsV RX9 91 RX8 yX8_letTicksGo wsX8_letTicksGo) := goodIn_app (goodIn_of _ (by decide +kernel)) ggX9_pass_X8_letTicksGo
set_option maxRecDepth 20000 in
theorem ggX9_pass_X9_recorded : GoodIn wsX9_pass wsX9_recorded := goodIn_r _ [228, 1, 229, 230, 231, 6, 232, 9, 14, 10, 11, 12, 13, 15, 16, 17, 18, 233, 234, 235, 236, 237, 238, 239] (by decide +kernel) (by decide +kernel)
set_option maxRecDepth 20000 in
theorem gX9_pass_X9_recorded : GoodIn wsX9_pass (wsV RX9 41 RX9 yX9_recorded wsX9_recorded) := goodIn_app (goodIn_of _ (by decide +kernel)) ggX9_pass_X9_recorded
theorem dX9_pass_0 : decode cX9_pass 0 = .ok (.aload_n 0, 1) := by decide +kernel
theorem dX9_pass_1 : decode cX9_pass 1 = .ok (.getfield 22, 3) := by decide +kernel
theorem dX9_pass_4 : decode cX9_pass 4 = .ok (.aload_n 0, 1) := by decide +kernel
theorem dX9_pass_5 : decode cX9_pass 5 = .ok (.getfield 10, 3) := by decide +kernel
theorem dX9_pass_8 : decode cX9_pass 8 = .ok (.invokevirtual 33, 3) := by decide +kernel
theorem dX9_pass_11 : decode cX9_pass 11 = .ok (.aload_n 0, 1) := by decide +kernel
theorem dX9_pass_12 : decode cX9_pass 12 = .ok (.aload_n 0, 1) := by decide +kernel
theorem dX9_pass_13 : decode cX9_pass 13 = .ok (.getfield 10, 3) := by decide +kernel
theorem dX9_pass_16 : decode cX9_pass 16 = .ok (.iload_n 1, 1) := by decide +kernel
theorem dX9_pass_17 : decode cX9_pass 17 = .ok (.invokevirtual 91, 3) := by decide +kernel
theorem dX9_pass_20 : decode cX9_pass 20 = .ok (.invokevirtual 41, 3) := by decide +kernel
theorem dX9_pass_23 : decode cX9_pass 23 = .ok (.ireturn, 1) := by decide +kernel
set_option maxRecDepth 20000 in
theorem ggX9_type_X3_append : GoodIn wsX9_type wsX3_append := goodIn_r _ [6, 7, 8, 13, 14, 15, 16, 17, 18, 19] (by decide +kernel) (by decide +kernel)
set_option maxRecDepth 20000 in
theorem gX9_type_X3_append : GoodIn wsX9_type (wsV RX9 94 RX3 yX3_append wsX3_append) := goodIn_app (goodIn_of _ (by decide +kernel)) ggX9_type_X3_append
theorem dX9_type_0 : decode cX9_type 0 = .ok (.aload_n 0, 1) := by decide +kernel
theorem dX9_type_1 : decode cX9_type 1 = .ok (.getfield 29, 3) := by decide +kernel
theorem dX9_type_4 : decode cX9_type 4 = .ok (.iload_n 1, 1) := by decide +kernel
theorem dX9_type_5 : decode cX9_type 5 = .ok (.invokevirtual 94, 3) := by decide +kernel
theorem dX9_type_8 : decode cX9_type 8 = .ok (.ireturn, 1) := by decide +kernel
set_option maxRecDepth 20000 in
theorem ggX9_clearText_X3_erase : GoodIn wsX9_clearText wsX3_erase := goodIn_r _ [6, 7, 12, 13, 14, 15, 16, 17, 18] (by decide +kernel) (by decide +kernel)
set_option maxRecDepth 20000 in
theorem gX9_clearText_X3_erase : GoodIn wsX9_clearText (wsV RX9 98 RX3 yX3_erase wsX3_erase) := goodIn_app (goodIn_of _ (by decide +kernel)) ggX9_clearText_X3_erase
theorem dX9_clearText_0 : decode cX9_clearText 0 = .ok (.aload_n 0, 1) := by decide +kernel
theorem dX9_clearText_1 : decode cX9_clearText 1 = .ok (.getfield 29, 3) := by decide +kernel
theorem dX9_clearText_4 : decode cX9_clearText 4 = .ok (.invokevirtual 98, 3) := by decide +kernel
theorem dX9_clearText_7 : decode cX9_clearText 7 = .ok (.ireturn, 1) := by decide +kernel
set_option maxRecDepth 20000 in
theorem ggX9_run_X3_findFault : GoodIn wsX9_run wsX3_findFault := goodIn_r _ [9, 10, 11, 12, 13, 14, 8, 15, 16, 17, 18, 19, 20, 21, 22, 23, 24, 25, 26, 27, 28, 29, 30, 31, 32, 33, 34, 35, 36, 37, 38, 39, 40, 41, 42, 43, 44, 328, 329, 330, 331, 332, 333, 334] (by decide +kernel) (by decide +kernel)
set_option maxRecDepth 20000 in
theorem gX9_run_X3_findFault : GoodIn wsX9_run (wsV RX9 106 RX3 yX3_findFault wsX3_findFault) := goodIn_app (goodIn_of _ (by decide +kernel)) ggX9_run_X3_findFault
set_option maxRecDepth 20000 in
theorem ggX9_run_X2_prepare : GoodIn wsX9_run wsX2_prepare := goodIn_r _ [49, 50, 51, 52, 53, 54, 48, 55, 56, 57, 58, 59, 60, 61, 62, 63, 64, 65, 66, 67, 68, 69, 70, 71, 72, 73, 74, 75, 76, 77, 78, 79, 80, 81, 82, 83, 84, 85, 86, 87, 88, 89, 90, 91, 92, 93, 94, 95, 96, 97, 98, 99, 100, 101, 102, 103, 104, 105, 106, 107, 108, 109, 110, 111, 112, 113, 114, 115, 116, 117, 118, 119, 120, 121, 122, 123, 124, 125, 126, 127, 128, 129, 130, 131, 132, 133, 134, 135, 136, 137, 138, 139, 140, 141, 142, 143, 144, 145, 146, 147, 148, 149, 150, 151, 152, 153, 335, 336, 337, 317, 318, 319, 320, 321, 322, 323, 324, 325, 326, 327, 338, 339, 340, 341, 342, 343, 344, 345, 346, 347, 348, 349, 350, 351, 352, 353, 354, 355, 356, 357, 358, 359, 360, 361, 362, 363, 364, 365, 366, 367, 368, 369, 370, 371, 372, 373, 374, 375] (by decide +kernel) (by decide +kernel)
set_option maxRecDepth 20000 in
theorem gX9_run_X2_prepare : GoodIn wsX9_run (wsV RX9 33 RX2 yX2_prepare wsX2_prepare) := goodIn_app (goodIn_of _ (by decide +kernel)) ggX9_run_X2_prepare
set_option maxRecDepth 20000 in
theorem ggX9_run_X2_keep : GoodIn wsX9_run wsX2_keep := goodIn_r _ [157, 51, 56, 52, 53, 54, 48, 55, 57, 58, 59, 60, 335, 336, 337] (by decide +kernel) (by decide +kernel)
set_option maxRecDepth 20000 in
theorem gX9_run_X2_keep : GoodIn wsX9_run (wsV RX9 85 RX2 yX2_keep wsX2_keep) := goodIn_app (goodIn_of _ (by decide +kernel)) ggX9_run_X2_keep
set_option maxRecDepth 20000 in
theorem ggX9_run_X3_restart : GoodIn wsX9_run wsX3_restart := goodIn_r _ [15, 10, 328, 329, 330, 331, 332, 333, 334] (by decide +kernel) (by decide +kernel)
set_option maxRecDepth 20000 in
theorem gX9_run_X3_restart : GoodIn wsX9_run (wsV RX9 109 RX3 yX3_restart wsX3_restart) := goodIn_app (goodIn_of _ (by decide +kernel)) ggX9_run_X3_restart
set_option maxRecDepth 20000 in
theorem ggX9_run_X3_readOrder : GoodIn wsX9_run wsX3_readOrder := goodIn_r _ [19, 20, 10, 21, 22, 23, 8, 24, 11, 25, 26, 27, 28, 29, 30, 31, 32, 33, 34, 35, 36, 37, 38, 39, 40, 41, 42, 43, 44, 328, 329, 330, 331, 332, 333, 334] (by decide +kernel) (by decide +kernel)
set_option maxRecDepth 20000 in
theorem gX9_run_X3_readOrder : GoodIn wsX9_run (wsV RX9 112 RX3 yX3_readOrder wsX3_readOrder) := goodIn_app (goodIn_of _ (by decide +kernel)) ggX9_run_X3_readOrder
set_option maxRecDepth 20000 in
theorem ggX9_run_X9_carryOut : GoodIn wsX9_run wsX9_carryOut := goodIn_r _ [164, 1, 165, 2, 166, 167, 168, 169, 170, 171, 64, 172, 68, 69, 75, 173, 174, 175, 176, 177, 66, 67, 178, 179, 180, 181, 72, 73, 182, 183, 184, 115, 185, 117, 118, 121, 186, 187, 188, 189, 120, 119, 122, 123, 190, 191, 192, 100, 193, 102, 103, 194, 195, 196, 197, 198, 199, 200, 201, 202, 203, 204, 205, 206, 207, 208, 209, 163, 210, 211, 212, 213, 214, 215, 216, 217, 218, 219, 220, 221, 222, 223, 224, 225, 74, 226, 227, 228, 229, 230, 231, 232, 233, 234, 235, 236, 237, 238, 239, 240, 241, 242, 108, 109, 110, 111, 243, 244, 245, 246, 247, 248, 249, 250, 251, 252, 76, 253, 254, 255, 256, 70, 71, 257, 258, 259, 260, 261, 262, 263, 145, 264, 153, 147, 149, 150, 151, 152, 265, 105, 106, 107, 266, 58, 59, 60, 267, 268, 269, 270, 271, 272, 273, 274, 80, 275, 88, 89, 276, 277, 278, 279, 280, 281, 282, 283, 284, 285, 286, 287, 288, 289, 290, 291, 292, 293, 294, 295, 296, 297, 298, 299, 300, 301, 302, 303, 304, 305, 306, 307, 308, 309, 313, 314, 315, 316, 328, 329, 330, 331, 332, 333, 334, 317, 318, 319, 320, 321, 322, 323, 324, 325, 326, 327, 338, 339, 340, 341, 342, 343, 344, 345, 346, 347, 348, 349, 350, 351, 352, 355, 356, 357, 358, 359, 360, 361, 353, 354, 367, 368, 369, 362, 363, 364, 365, 366, 370, 371, 372, 373, 374, 375] (by decide +kernel) (by decide +kernel)
set_option maxRecDepth 20000 in
theorem gX9_run_X9_carryOut : GoodIn wsX9_run (wsV RX9 115 RX9 yX9_carryOut wsX9_carryOut) := goodIn_app (goodIn_of _ (by decide +kernel)) ggX9_run_X9_carryOut
set_option maxRecDepth 20000 in
theorem ggX9_run_X9_isError : GoodIn wsX9_run wsX9_isError := goodIn_r _ [312] (by decide +kernel) (by decide +kernel)
set_option maxRecDepth 20000 in
theorem gX9_run_X9_isError : GoodIn wsX9_run (va_wsS RX9 81 yX9_isError wsX9_isError) := goodIn_app (goodIn_of _ (by decide +kernel)) ggX9_run_X9_isError
theorem dX9_run_0 : decode cX9_run 0 = .ok (.aload_n 0, 1) := by decide +kernel
theorem dX9_run_1 : decode cX9_run 1 = .ok (.getfield 29, 3) := by decide +kernel
theorem dX9_run_4 : decode cX9_run 4 = .ok (.aload_n 0, 1) := by decide +kernel
theorem dX9_run_5 : decode cX9_run 5 = .ok (.getfield 10, 3) := by decide +kernel
theorem dX9_run_8 : decode cX9_run 8 = .ok (.getfield 102, 3) := by decide +kernel
theorem dX9_run_11 : decode cX9_run 11 = .ok (.invokevirtual 106, 3) := by decide +kernel
theorem dX9_run_14 : decode cX9_run 14 = .ok (.istore_n 1, 1) := by decide +kernel
theorem dX9_run_15 : decode cX9_run 15 = .ok (.iload_n 1, 1) := by decide +kernel
theorem dX9_run_16 : decode cX9_run 16 = .ok (.iconst (-1), 1) := by decide +kernel
theorem dX9_run_17 : decode cX9_run 17 = .ok (.if_icmp .eq 8, 3) := by decide +kernel
theorem dX9_run_20 : decode cX9_run 20 = .ok (.bipush (-100), 2) := by decide +kernel
theorem dX9_run_22 : decode cX9_run 22 = .ok (.iload_n 1, 1) := by decide +kernel
theorem dX9_run_23 : decode cX9_run 23 = .ok (.isub, 1) := by decide +kernel
theorem dX9_run_24 : decode cX9_run 24 = .ok (.ireturn, 1) := by decide +kernel
theorem dX9_run_25 : decode cX9_run 25 = .ok (.aload_n 0, 1) := by decide +kernel
theorem dX9_run_26 : decode cX9_run 26 = .ok (.getfield 22, 3) := by decide +kernel
theorem dX9_run_29 : decode cX9_run 29 = .ok (.aload_n 0, 1) := by decide +kernel
theorem dX9_run_30 : decode cX9_run 30 = .ok (.getfield 10, 3) := by decide +kernel
theorem dX9_run_33 : decode cX9_run 33 = .ok (.invokevirtual 33, 3) := by decide +kernel
theorem dX9_run_36 : decode cX9_run 36 = .ok (.aload_n 0, 1) := by decide +kernel
theorem dX9_run_37 : decode cX9_run 37 = .ok (.getfield 22, 3) := by decide +kernel
theorem dX9_run_40 : decode cX9_run 40 = .ok (.invokevirtual 85, 3) := by decide +kernel
theorem dX9_run_43 : decode cX9_run 43 = .ok (.aload_n 0, 1) := by decide +kernel
theorem dX9_run_44 : decode cX9_run 44 = .ok (.getfield 29, 3) := by decide +kernel
theorem dX9_run_47 : decode cX9_run 47 = .ok (.invokevirtual 109, 3) := by decide +kernel
theorem dX9_run_50 : decode cX9_run 50 = .ok (.iconst 0, 1) := by decide +kernel
theorem dX9_run_51 : decode cX9_run 51 = .ok (.istore_n 2, 1) := by decide +kernel
theorem dX9_run_52 : decode cX9_run 52 = .ok (.iload_n 2, 1) := by decide +kernel
theorem dX9_run_53 : decode cX9_run 53 = .ok (.bipush 50, 2) := by decide +kernel
theorem dX9_run_55 : decode cX9_run 55 = .ok (.if_icmp .ge 36, 3) := by decide +kernel
theorem dX9_run_58 : decode cX9_run 58 = .ok (.aload_n 0, 1) := by decide +kernel
theorem dX9_run_59 : decode cX9_run 59 = .ok (.getfield 29, 3) := by decide +kernel
theorem dX9_run_62 : decode cX9_run 62 = .ok (.aload_n 0, 1) := by decide +kernel
theorem dX9_run_63 : decode cX9_run 63 = .ok (.getfield 10, 3) := by decide +kernel
theorem dX9_run_66 : decode cX9_run 66 = .ok (.getfield 102, 3) := by decide +kernel
theorem dX9_run_69 : decode cX9_run 69 = .ok (.invokevirtual 112, 3) := by decide +kernel
theorem dX9_run_72 : decode cX9_run 72 = .ok (.ifCond .eq 19, 3) := by decide +kernel
theorem dX9_run_75 : decode cX9_run 75 = .ok (.aload_n 0, 1) := by decide +kernel
theorem dX9_run_76 : decode cX9_run 76 = .ok (.invokevirtual 115, 3) := by decide +kernel
theorem dX9_run_79 : decode cX9_run 79 = .ok (.invokestatic 81, 3) := by decide +kernel
theorem dX9_run_82 : decode cX9_run 82 = .ok (.ifCond .ne 9, 3) := by decide +kernel
theorem dX9_run_85 : decode cX9_run 85 = .ok (.iinc 2 1, 3) := by decide +kernel
theorem dX9_run_88 : decode cX9_run 88 = .ok (.goto (-36), 3) := by decide +kernel
theorem dX9_run_91 : decode cX9_run 91 = .ok (.iload_n 2, 1) := by decide +kernel
theorem dX9_run_92 : decode cX9_run 92 = .ok (.ireturn, 1) := by decide +kernel
set_option maxRecDepth 20000 in
theorem ggX9_undo_X2_takeLatest : GoodIn wsX9_undo wsX2_takeLatest := goodIn_r _ [8, 9, 10, 11, 12, 13, 14, 15, 16, 17, 7, 18, 19, 20, 21, 22, 23, 120, 121, 122] (by decide +kernel) (by decide +kernel)
set_option maxRecDepth 20000 in
theorem gX9_undo_X2_takeLatest : GoodIn wsX9_undo (wsV RX9 121 RX2 yX2_takeLatest wsX2_takeLatest) := goodIn_app (goodIn_of _ (by decide +kernel)) ggX9_undo_X2_takeLatest
set_option maxRecDepth 20000 in
theorem ggX9_undo_X8_copyFrom : GoodIn wsX9_undo wsX8_copyFrom := goodIn_r _ [28, 29, 30, 31, 32, 33, 34, 35, 36, 37, 38, 39, 40, 41, 42, 43, 44, 45, 46, 47, 48, 49, 50, 51, 52, 53, 54, 55, 56, 57, 58, 59, 60, 61, 62, 63, 64, 65, 66, 67, 68, 12, 69, 70, 71, 72, 73, 74, 75, 76, 77, 78, 79, 80, 81, 82, 83, 84, 85, 86, 87, 88, 89, 90, 91, 92, 93, 94, 95, 96, 97, 98, 99, 100, 101, 102, 103, 104, 105, 106, 107, 108, 109, 110, 111, 112, 113, 114, 115, 123, 124, 125, 126, 127, 128, 129, 130, 131, 132, 133, 134, 135, 136, 137, 138, 139, 140, 141, 142, 143, 144, 145, 146, 147, 148, 149, 150, 151, 152, 153, 154, 155, 156, 157, 158, 159, 160, 161, 162, 163, 164, 165, 166, 167, 168, 169, 170, 171] (by decide +kernel) (by decide +kernel)
set_option maxRecDepth 20000 in
theorem gX9_undo_X8_copyFrom : GoodIn wsX9_undo (wsV RX9 125 RX8 yX8_copyFrom wsX8_copyFrom) := goodIn_app (goodIn_of _ (by decide +kernel)) ggX9_undo_X8_copyFrom
theorem dX9_undo_0 : decode cX9_undo 0 = .ok (.aload_n 0, 1) := by decide +kernel
theorem dX9_undo_1 : decode cX9_undo 1 = .ok (.getfield 22, 3) := by decide +kernel
theorem dX9_undo_4 : decode cX9_undo 4 = .ok (.getfield 118, 3) := by decide +kernel
theorem dX9_undo_7 : decode cX9_undo 7 = .ok (.ifCond .ne 6, 3) := by decide +kernel
theorem dX9_undo_10 : decode cX9_undo 10 = .ok (.bipush (-5), 2) := by decide +kernel
theorem dX9_undo_12 : decode cX9_undo 12 = .ok (.ireturn, 1) := by decide +kernel
theorem dX9_undo_13 : decode cX9_undo 13 = .ok (.aload_n 0, 1) := by decide +kernel
theorem dX9_undo_14 : decode cX9_undo 14 = .ok (.getfield 10, 3) := by decide +kernel
theorem dX9_undo_17 : decode cX9_undo 17 = .ok (.aload_n 0, 1) := by decide +kernel
theorem dX9_undo_18 : decode cX9_undo 18 = .ok (.getfield 22, 3) := by decide +kernel
theorem dX9_undo_21 : decode cX9_undo 21 = .ok (.invokevirtual 121, 3) := by decide +kernel
theorem dX9_undo_24 : decode cX9_undo 24 = .ok (.invokevirtual 125, 3) := by decide +kernel
theorem dX9_undo_27 : decode cX9_undo 27 = .ok (.aload_n 0, 1) := by decide +kernel
theorem dX9_undo_28 : decode cX9_undo 28 = .ok (.getfield 22, 3) := by decide +kernel
theorem dX9_undo_31 : decode cX9_undo 31 = .ok (.getfield 118, 3) := by decide +kernel
theorem dX9_undo_34 : decode cX9_undo 34 = .ok (.ireturn, 1) := by decide +kernel
set_option maxRecDepth 20000 in
theorem ggX9_gate_X8_gateAt : GoodIn wsX9_gate wsX8_gateAt := goodIn_r _ [18, 19, 20, 42, 43, 44, 45, 46, 47, 48, 49, 50, 51, 52] (by decide +kernel) (by decide +kernel)
set_option maxRecDepth 20000 in
theorem gX9_gate_X8_gateAt : GoodIn wsX9_gate (wsV RX9 128 RX8 yX8_gateAt wsX8_gateAt) := goodIn_app (goodIn_of _ (by decide +kernel)) ggX9_gate_X8_gateAt
theorem dX9_gate_0 : decode cX9_gate 0 = .ok (.aload_n 0, 1) := by decide +kernel
theorem dX9_gate_1 : decode cX9_gate 1 = .ok (.getfield 10, 3) := by decide +kernel
theorem dX9_gate_4 : decode cX9_gate 4 = .ok (.iload_n 1, 1) := by decide +kernel
theorem dX9_gate_5 : decode cX9_gate 5 = .ok (.invokevirtual 128, 3) := by decide +kernel
theorem dX9_gate_8 : decode cX9_gate 8 = .ok (.astore_n 3, 1) := by decide +kernel
theorem dX9_gate_9 : decode cX9_gate 9 = .ok (.aload_n 3, 1) := by decide +kernel
theorem dX9_gate_10 : decode cX9_gate 10 = .ok (.ifnonnull 5, 3) := by decide +kernel
theorem dX9_gate_13 : decode cX9_gate 13 = .ok (.iconst (-1), 1) := by decide +kernel
theorem dX9_gate_14 : decode cX9_gate 14 = .ok (.ireturn, 1) := by decide +kernel
theorem dX9_gate_15 : decode cX9_gate 15 = .ok (.iload_n 2, 1) := by decide +kernel
theorem dX9_gate_16 : decode cX9_gate 16 = .ok (.tableswitch 129 0 10 #[60, 65, 70, 75, 80, 88, 96, 101, 106, 111, 116], 60) := by decide +kernel
theorem dX9_gate_76 : decode cX9_gate 76 = .ok (.aload_n 3, 1) := by decide +kernel
theorem dX9_gate_77 : decode cX9_gate 77 = .ok (.getfield 132, 3) := by decide +kernel
theorem dX9_gate_80 : decode cX9_gate 80 = .ok (.ireturn, 1) := by decide +kernel
theorem dX9_gate_81 : decode cX9_gate 81 = .ok (.aload_n 3, 1) := by decide +kernel
theorem dX9_gate_82 : decode cX9_gate 82 = .ok (.getfield 137, 3) := by decide +kernel
theorem dX9_gate_85 : decode cX9_gate 85 = .ok (.ireturn, 1) := by decide +kernel
theorem dX9_gate_86 : decode cX9_gate 86 = .ok (.aload_n 3, 1) := by decide +kernel
theorem dX9_gate_87 : decode cX9_gate 87 = .ok (.getfield 140, 3) := by decide +kernel
theorem dX9_gate_90 : decode cX9_gate 90 = .ok (.ireturn, 1) := by decide +kernel
theorem dX9_gate_91 : decode cX9_gate 91 = .ok (.aload_n 3, 1) := by decide +kernel
theorem dX9_gate_92 : decode cX9_gate 92 = .ok (.getfield 143, 3) := by decide +kernel
theorem dX9_gate_95 : decode cX9_gate 95 = .ok (.ireturn, 1) := by decide +kernel
theorem dX9_gate_96 : decode cX9_gate 96 = .ok (.aload_n 3, 1) := by decide +kernel
theorem dX9_gate_97 : decode cX9_gate 97 = .ok (.getfield 146, 3) := by decide +kernel
theorem dX9_gate_100 : decode cX9_gate 100 = .ok (.getfield 150, 3) := by decide +kernel
theorem dX9_gate_103 : decode cX9_gate 103 = .ok (.ireturn, 1) := by decide +kernel
theorem dX9_gate_104 : decode cX9_gate 104 = .ok (.aload_n 3, 1) := by decide +kernel
theorem dX9_gate_105 : decode cX9_gate 105 = .ok (.getfield 153, 3) := by decide +kernel
theorem dX9_gate_108 : decode cX9_gate 108 = .ok (.getfield 150, 3) := by decide +kernel
theorem dX9_gate_111 : decode cX9_gate 111 = .ok (.ireturn, 1) := by decide +kernel
theorem dX9_gate_112 : decode cX9_gate 112 = .ok (.aload_n 3, 1) := by decide +kernel
theorem dX9_gate_113 : decode cX9_gate 113 = .ok (.getfield 156, 3) := by decide +kernel
theorem dX9_gate_116 : decode cX9_gate 116 = .ok (.ireturn, 1) := by decide +kernel
theorem dX9_gate_117 : decode cX9_gate 117 = .ok (.aload_n 3, 1) := by decide +kernel
theorem dX9_gate_118 : decode cX9_gate 118 = .ok (.getfield 159, 3) := by decide +kernel
theorem dX9_gate_121 : decode cX9_gate 121 = .ok (.ireturn, 1) := by decide +kernel
theorem dX9_gate_122 : decode cX9_gate 122 = .ok (.aload_n 3, 1) := by decide +kernel
theorem dX9_gate_123 : decode cX9_gate 123 = .ok (.getfield 162, 3) := by decide +kernel
theorem dX9_gate_126 : decode cX9_gate 126 = .ok (.ireturn, 1) := by decide +kernel
theorem dX9_gate_127 : decode cX9_gate 127 = .ok (.aload_n 3, 1) := by decide +kernel
theorem dX9_gate_128 : decode cX9_gate 128 = .ok (.getfield 165, 3) := by decide +kernel
theorem dX9_gate_131 : decode cX9_gate 131 = .ok (.ireturn, 1) := by decide +kernel
theorem dX9_gate_132 : decode cX9_gate 132 = .ok (.aload_n 3, 1) := by decide +kernel
theorem dX9_gate_133 : decode cX9_gate 133 = .ok (.getfield 168, 3) := by decide +kernel
theorem dX9_gate_136 : decode cX9_gate 136 = .ok (.ifCond .eq 7, 3) := by decide +kernel
theorem dX9_gate_139 : decode cX9_gate 139 = .ok (.iconst 1, 1) := by decide +kernel
theorem dX9_gate_140 : decode cX9_gate 140 = .ok (.goto 4, 3) := by decide +kernel
theorem dX9_gate_143 : decode cX9_gate 143 = .ok (.iconst 0, 1) := by decide +kernel
theorem dX9_gate_144 : decode cX9_gate 144 = .ok (.ireturn, 1) := by decide +kernel
theorem dX9_gate_145 : decode cX9_gate 145 = .ok (.bipush (-2), 2) := by decide +kernel
theorem dX9_gate_147 : decode cX9_gate 147 = .ok (.ireturn, 1) := by decide +kernel
set_option maxRecDepth 20000 in
theorem ggX9_queued_X8_gateAt : GoodIn wsX9_queued wsX8_gateAt := goodIn_r _ [8, 9, 10, 37, 38, 39, 40, 41, 42, 43, 44, 45, 46, 47] (by decide +kernel) (by decide +kernel)
set_option maxRecDepth 20000 in
theorem gX9_queued_X8_gateAt : GoodIn wsX9_queued (wsV RX9 128 RX8 yX8_gateAt wsX8_gateAt) := goodIn_app (goodIn_of _ (by decide +kernel)) ggX9_queued_X8_gateAt
set_option maxRecDepth 20000 in
theorem ggX9_queued_X7_personAtPlace : GoodIn wsX9_queued wsX7_personAtPlace := goodIn_r _ [15, 16, 17, 48, 49] (by decide +kernel) (by decide +kernel)
set_option maxRecDepth 20000 in
theorem gX9_queued_X7_personAtPlace : GoodIn wsX9_queued (wsV RX9 172 RX7 yX7_personAtPlace wsX7_personAtPlace) := goodIn_app (goodIn_of _ (by decide +kernel)) ggX9_queued_X7_personAtPlace
theorem dX9_queued_0 : decode cX9_queued 0 = .ok (.aload_n 0, 1) := by decide +kernel
theorem dX9_queued_1 : decode cX9_queued 1 = .ok (.getfield 10, 3) := by decide +kernel
theorem dX9_queued_4 : decode cX9_queued 4 = .ok (.iload_n 1, 1) := by decide +kernel
theorem dX9_queued_5 : decode cX9_queued 5 = .ok (.invokevirtual 128, 3) := by decide +kernel
theorem dX9_queued_8 : decode cX9_queued 8 = .ok (.astore 4, 2) := by decide +kernel
theorem dX9_queued_10 : decode cX9_queued 10 = .ok (.aload 4, 2) := by decide +kernel
theorem dX9_queued_12 : decode cX9_queued 12 = .ok (.ifnonnull 5, 3) := by decide +kernel
theorem dX9_queued_15 : decode cX9_queued 15 = .ok (.iconst (-1), 1) := by decide +kernel
theorem dX9_queued_16 : decode cX9_queued 16 = .ok (.ireturn, 1) := by decide +kernel
theorem dX9_queued_17 : decode cX9_queued 17 = .ok (.iload_n 2, 1) := by decide +kernel
theorem dX9_queued_18 : decode cX9_queued 18 = .ok (.ifCond .lt 12, 3) := by decide +kernel
theorem dX9_queued_21 : decode cX9_queued 21 = .ok (.iload_n 2, 1) := by decide +kernel
theorem dX9_queued_22 : decode cX9_queued 22 = .ok (.iconst 1, 1) := by decide +kernel
theorem dX9_queued_23 : decode cX9_queued 23 = .ok (.if_icmp .gt 7, 3) := by decide +kernel
theorem dX9_queued_26 : decode cX9_queued 26 = .ok (.iload_n 3, 1) := by decide +kernel
theorem dX9_queued_27 : decode cX9_queued 27 = .ok (.ifCond .ge 6, 3) := by decide +kernel
theorem dX9_queued_30 : decode cX9_queued 30 = .ok (.bipush (-2), 2) := by decide +kernel
theorem dX9_queued_32 : decode cX9_queued 32 = .ok (.ireturn, 1) := by decide +kernel
theorem dX9_queued_33 : decode cX9_queued 33 = .ok (.iload_n 2, 1) := by decide +kernel
theorem dX9_queued_34 : decode cX9_queued 34 = .ok (.ifCond .ne 15, 3) := by decide +kernel
theorem dX9_queued_37 : decode cX9_queued 37 = .ok (.aload 4, 2) := by decide +kernel
theorem dX9_queued_39 : decode cX9_queued 39 = .ok (.getfield 146, 3) := by decide +kernel
theorem dX9_queued_42 : decode cX9_queued 42 = .ok (.iload_n 3, 1) := by decide +kernel
theorem dX9_queued_43 : decode cX9_queued 43 = .ok (.invokevirtual 172, 3) := by decide +kernel
theorem dX9_queued_46 : decode cX9_queued 46 = .ok (.goto 12, 3) := by decide +kernel
theorem dX9_queued_49 : decode cX9_queued 49 = .ok (.aload 4, 2) := by decide +kernel
theorem dX9_queued_51 : decode cX9_queued 51 = .ok (.getfield 153, 3) := by decide +kernel
theorem dX9_queued_54 : decode cX9_queued 54 = .ok (.iload_n 3, 1) := by decide +kernel
theorem dX9_queued_55 : decode cX9_queued 55 = .ok (.invokevirtual 172, 3) := by decide +kernel
theorem dX9_queued_58 : decode cX9_queued 58 = .ok (.ireturn, 1) := by decide +kernel
set_option maxRecDepth 20000 in
theorem ggX9_person_X8_personAt : GoodIn wsX9_person wsX8_personAt := goodIn_r _ [13, 14, 15, 33, 34, 35, 36, 37, 38, 39, 40, 41, 42, 43] (by decide +kernel) (by decide +kernel)
set_option maxRecDepth 20000 in
theorem gX9_person_X8_personAt : GoodIn wsX9_person (wsV RX9 175 RX8 yX8_personAt wsX8_personAt) := goodIn_app (goodIn_of _ (by decide +kernel)) ggX9_person_X8_personAt
set_option maxRecDepth 20000 in
theorem ggX9_person_X5_isWaiting : GoodIn wsX9_person wsX5_isWaiting := goodIn_r _ [20, 21, 26, 27, 28, 29, 30, 31, 32] (by decide +kernel) (by decide +kernel)
set_option maxRecDepth 20000 in
theorem gX9_person_X5_isWaiting : GoodIn wsX9_person (wsV RX9 196 RX5 yX5_isWaiting wsX5_isWaiting) := goodIn_app (goodIn_of _ (by decide +kernel)) ggX9_person_X5_isWaiting
theorem dX9_person_0 : decode cX9_person 0 = .ok (.aload_n 0, 1) := by decide +kernel
theorem dX9_person_1 : decode cX9_person 1 = .ok (.getfield 10, 3) := by decide +kernel
theorem dX9_person_4 : decode cX9_person 4 = .ok (.iload_n 1, 1) := by decide +kernel
theorem dX9_person_5 : decode cX9_person 5 = .ok (.invokevirtual 175, 3) := by decide +kernel
theorem dX9_person_8 : decode cX9_person 8 = .ok (.astore_n 3, 1) := by decide +kernel
theorem dX9_person_9 : decode cX9_person 9 = .ok (.aload_n 3, 1) := by decide +kernel
theorem dX9_person_10 : decode cX9_person 10 = .ok (.ifnonnull 5, 3) := by decide +kernel
theorem dX9_person_13 : decode cX9_person 13 = .ok (.iconst (-1), 1) := by decide +kernel
theorem dX9_person_14 : decode cX9_person 14 = .ok (.ireturn, 1) := by decide +kernel
theorem dX9_person_15 : decode cX9_person 15 = .ok (.iload_n 2, 1) := by decide +kernel
theorem dX9_person_16 : decode cX9_person 16 = .ok (.tableswitch 97 0 5 #[40, 45, 50, 63, 68, 73], 40) := by decide +kernel
theorem dX9_person_56 : decode cX9_person 56 = .ok (.aload_n 3, 1) := by decide +kernel
theorem dX9_person_57 : decode cX9_person 57 = .ok (.getfield 179, 3) := by decide +kernel
theorem dX9_person_60 : decode cX9_person 60 = .ok (.ireturn, 1) := by decide +kernel
theorem dX9_person_61 : decode cX9_person 61 = .ok (.aload_n 3, 1) := by decide +kernel
theorem dX9_person_62 : decode cX9_person 62 = .ok (.getfield 184, 3) := by decide +kernel
theorem dX9_person_65 : decode cX9_person 65 = .ok (.ireturn, 1) := by decide +kernel
theorem dX9_person_66 : decode cX9_person 66 = .ok (.aload_n 3, 1) := by decide +kernel
theorem dX9_person_67 : decode cX9_person 67 = .ok (.getfield 187, 3) := by decide +kernel
theorem dX9_person_70 : decode cX9_person 70 = .ok (.ifCond .eq 7, 3) := by decide +kernel
theorem dX9_person_73 : decode cX9_person 73 = .ok (.iconst 1, 1) := by decide +kernel
theorem dX9_person_74 : decode cX9_person 74 = .ok (.goto 4, 3) := by decide +kernel
theorem dX9_person_77 : decode cX9_person 77 = .ok (.iconst 0, 1) := by decide +kernel
theorem dX9_person_78 : decode cX9_person 78 = .ok (.ireturn, 1) := by decide +kernel
theorem dX9_person_79 : decode cX9_person 79 = .ok (.aload_n 3, 1) := by decide +kernel
theorem dX9_person_80 : decode cX9_person 80 = .ok (.getfield 190, 3) := by decide +kernel
theorem dX9_person_83 : decode cX9_person 83 = .ok (.ireturn, 1) := by decide +kernel
theorem dX9_person_84 : decode cX9_person 84 = .ok (.aload_n 3, 1) := by decide +kernel
theorem dX9_person_85 : decode cX9_person 85 = .ok (.getfield 193, 3) := by decide +kernel
theorem dX9_person_88 : decode cX9_person 88 = .ok (.ireturn, 1) := by decide +kernel
theorem dX9_person_89 : decode cX9_person 89 = .ok (.aload_n 3, 1) := by decide +kernel
theorem dX9_person_90 : decode cX9_person 90 = .ok (.invokevirtual 196, 3) := by decide +kernel
theorem dX9_person_93 : decode cX9_person 93 = .ok (.ifCond .eq 18, 3) := by decide +kernel
theorem dX9_person_96 : decode cX9_person 96 = .ok (.aload_n 0, 1) := by decide +kernel
theorem dX9_person_97 : decode cX9_person 97 = .ok (.getfield 10, 3) := by decide +kernel
theorem dX9_person_100 : decode cX9_person 100 = .ok (.getfield 200, 3) := by decide +kernel
theorem dX9_person_103 : decode cX9_person 103 = .ok (.aload_n 3, 1) := by decide +kernel
theorem dX9_person_104 : decode cX9_person 104 = .ok (.getfield 203, 3) := by decide +kernel
theorem dX9_person_107 : decode cX9_person 107 = .ok (.isub, 1) := by decide +kernel
theorem dX9_person_108 : decode cX9_person 108 = .ok (.goto 4, 3) := by decide +kernel
theorem dX9_person_111 : decode cX9_person 111 = .ok (.iconst 0, 1) := by decide +kernel
theorem dX9_person_112 : decode cX9_person 112 = .ok (.ireturn, 1) := by decide +kernel
theorem dX9_person_113 : decode cX9_person 113 = .ok (.bipush (-2), 2) := by decide +kernel
theorem dX9_person_115 : decode cX9_person 115 = .ok (.ireturn, 1) := by decide +kernel
set_option maxRecDepth 20000 in
theorem ggX9_pool_X8_poolAt : GoodIn wsX9_pool wsX8_poolAt := goodIn_r _ [11, 12, 13, 23, 24, 25, 26, 27, 28, 29, 30, 31, 32, 33] (by decide +kernel) (by decide +kernel)
set_option maxRecDepth 20000 in
theorem gX9_pool_X8_poolAt : GoodIn wsX9_pool (wsV RX9 206 RX8 yX8_poolAt wsX8_poolAt) := goodIn_app (goodIn_of _ (by decide +kernel)) ggX9_pool_X8_poolAt
theorem dX9_pool_0 : decode cX9_pool 0 = .ok (.aload_n 0, 1) := by decide +kernel
theorem dX9_pool_1 : decode cX9_pool 1 = .ok (.getfield 10, 3) := by decide +kernel
theorem dX9_pool_4 : decode cX9_pool 4 = .ok (.iload_n 1, 1) := by decide +kernel
theorem dX9_pool_5 : decode cX9_pool 5 = .ok (.invokevirtual 206, 3) := by decide +kernel
theorem dX9_pool_8 : decode cX9_pool 8 = .ok (.astore_n 3, 1) := by decide +kernel
theorem dX9_pool_9 : decode cX9_pool 9 = .ok (.aload_n 3, 1) := by decide +kernel
theorem dX9_pool_10 : decode cX9_pool 10 = .ok (.ifnonnull 5, 3) := by decide +kernel
theorem dX9_pool_13 : decode cX9_pool 13 = .ok (.iconst (-1), 1) := by decide +kernel
theorem dX9_pool_14 : decode cX9_pool 14 = .ok (.ireturn, 1) := by decide +kernel
theorem dX9_pool_15 : decode cX9_pool 15 = .ok (.iload_n 2, 1) := by decide +kernel
theorem dX9_pool_16 : decode cX9_pool 16 = .ok (.tableswitch 61 0 4 #[36, 41, 46, 51, 56], 36) := by decide +kernel
theorem dX9_pool_52 : decode cX9_pool 52 = .ok (.aload_n 3, 1) := by decide +kernel
theorem dX9_pool_53 : decode cX9_pool 53 = .ok (.getfield 210, 3) := by decide +kernel
theorem dX9_pool_56 : decode cX9_pool 56 = .ok (.ireturn, 1) := by decide +kernel
theorem dX9_pool_57 : decode cX9_pool 57 = .ok (.aload_n 3, 1) := by decide +kernel
theorem dX9_pool_58 : decode cX9_pool 58 = .ok (.getfield 215, 3) := by decide +kernel
theorem dX9_pool_61 : decode cX9_pool 61 = .ok (.ireturn, 1) := by decide +kernel
theorem dX9_pool_62 : decode cX9_pool 62 = .ok (.aload_n 3, 1) := by decide +kernel
theorem dX9_pool_63 : decode cX9_pool 63 = .ok (.getfield 218, 3) := by decide +kernel
theorem dX9_pool_66 : decode cX9_pool 66 = .ok (.ireturn, 1) := by decide +kernel
theorem dX9_pool_67 : decode cX9_pool 67 = .ok (.aload_n 3, 1) := by decide +kernel
theorem dX9_pool_68 : decode cX9_pool 68 = .ok (.getfield 221, 3) := by decide +kernel
theorem dX9_pool_71 : decode cX9_pool 71 = .ok (.ireturn, 1) := by decide +kernel
theorem dX9_pool_72 : decode cX9_pool 72 = .ok (.aload_n 3, 1) := by decide +kernel
theorem dX9_pool_73 : decode cX9_pool 73 = .ok (.getfield 224, 3) := by decide +kernel
theorem dX9_pool_76 : decode cX9_pool 76 = .ok (.ireturn, 1) := by decide +kernel
theorem dX9_pool_77 : decode cX9_pool 77 = .ok (.bipush (-2), 2) := by decide +kernel
theorem dX9_pool_79 : decode cX9_pool 79 = .ok (.ireturn, 1) := by decide +kernel
set_option maxRecDepth 20000 in
theorem ggX9_passOf_X8_passAt : GoodIn wsX9_passOf wsX8_passAt := goodIn_r _ [9, 10, 11, 19, 20, 21, 22, 23, 24, 25, 26, 27, 28, 29] (by decide +kernel) (by decide +kernel)
set_option maxRecDepth 20000 in
theorem gX9_passOf_X8_passAt : GoodIn wsX9_passOf (wsV RX9 227 RX8 yX8_passAt wsX8_passAt) := goodIn_app (goodIn_of _ (by decide +kernel)) ggX9_passOf_X8_passAt
theorem dX9_passOf_0 : decode cX9_passOf 0 = .ok (.aload_n 0, 1) := by decide +kernel
theorem dX9_passOf_1 : decode cX9_passOf 1 = .ok (.getfield 10, 3) := by decide +kernel
theorem dX9_passOf_4 : decode cX9_passOf 4 = .ok (.iload_n 1, 1) := by decide +kernel
theorem dX9_passOf_5 : decode cX9_passOf 5 = .ok (.invokevirtual 227, 3) := by decide +kernel
theorem dX9_passOf_8 : decode cX9_passOf 8 = .ok (.astore_n 3, 1) := by decide +kernel
theorem dX9_passOf_9 : decode cX9_passOf 9 = .ok (.aload_n 3, 1) := by decide +kernel
theorem dX9_passOf_10 : decode cX9_passOf 10 = .ok (.ifnonnull 5, 3) := by decide +kernel
theorem dX9_passOf_13 : decode cX9_passOf 13 = .ok (.iconst (-1), 1) := by decide +kernel
theorem dX9_passOf_14 : decode cX9_passOf 14 = .ok (.ireturn, 1) := by decide +kernel
theorem dX9_passOf_15 : decode cX9_passOf 15 = .ok (.iload_n 2, 1) := by decide +kernel
theorem dX9_passOf_16 : decode cX9_passOf 16 = .ok (.tableswitch 51 0 2 #[28, 33, 46], 28) := by decide +kernel
theorem dX9_passOf_44 : decode cX9_passOf 44 = .ok (.aload_n 3, 1) := by decide +kernel
theorem dX9_passOf_45 : decode cX9_passOf 45 = .ok (.getfield 231, 3) := by decide +kernel
theorem dX9_passOf_48 : decode cX9_passOf 48 = .ok (.ireturn, 1) := by decide +kernel
theorem dX9_passOf_49 : decode cX9_passOf 49 = .ok (.aload_n 3, 1) := by decide +kernel
theorem dX9_passOf_50 : decode cX9_passOf 50 = .ok (.getfield 236, 3) := by decide +kernel
theorem dX9_passOf_53 : decode cX9_passOf 53 = .ok (.ifCond .eq 7, 3) := by decide +kernel
theorem dX9_passOf_56 : decode cX9_passOf 56 = .ok (.iconst 1, 1) := by decide +kernel
theorem dX9_passOf_57 : decode cX9_passOf 57 = .ok (.goto 4, 3) := by decide +kernel
theorem dX9_passOf_60 : decode cX9_passOf 60 = .ok (.iconst 0, 1) := by decide +kernel
theorem dX9_passOf_61 : decode cX9_passOf 61 = .ok (.ireturn, 1) := by decide +kernel
theorem dX9_passOf_62 : decode cX9_passOf 62 = .ok (.aload_n 3, 1) := by decide +kernel
theorem dX9_passOf_63 : decode cX9_passOf 63 = .ok (.getfield 239, 3) := by decide +kernel
theorem dX9_passOf_66 : decode cX9_passOf 66 = .ok (.ireturn, 1) := by decide +kernel
theorem dX9_passOf_67 : decode cX9_passOf 67 = .ok (.bipush (-2), 2) := by decide +kernel
theorem dX9_passOf_69 : decode cX9_passOf 69 = .ok (.ireturn, 1) := by decide +kernel
set_option maxRecDepth 20000 in
theorem ggX9_event_X0_property : GoodIn wsX9_event wsX0_property := goodIn_r _ [7, 8, 9, 10, 11, 12, 13, 14, 15, 16, 17, 33, 34, 35, 36, 37, 38] (by decide +kernel) (by decide +kernel)
set_option maxRecDepth 20000 in
theorem gX9_event_X0_property : GoodIn wsX9_event (wsV RX9 246 RX0 yX0_property wsX0_property) := goodIn_app (goodIn_of _ (by decide +kernel)) ggX9_event_X0_property
theorem dX9_event_0 : decode cX9_event 0 = .ok (.iload_n 1, 1) := by decide +kernel
theorem dX9_event_1 : decode cX9_event 1 = .ok (.ifCond .lt 12, 3) := by decide +kernel
theorem dX9_event_4 : decode cX9_event 4 = .ok (.iload_n 2, 1) := by decide +kernel
theorem dX9_event_5 : decode cX9_event 5 = .ok (.ifCond .lt 8, 3) := by decide +kernel
theorem dX9_event_8 : decode cX9_event 8 = .ok (.iload_n 2, 1) := by decide +kernel
theorem dX9_event_9 : decode cX9_event 9 = .ok (.iconst 3, 1) := by decide +kernel
theorem dX9_event_10 : decode cX9_event 10 = .ok (.if_icmp .le 6, 3) := by decide +kernel
theorem dX9_event_13 : decode cX9_event 13 = .ok (.bipush (-2), 2) := by decide +kernel
theorem dX9_event_15 : decode cX9_event 15 = .ok (.ireturn, 1) := by decide +kernel
theorem dX9_event_16 : decode cX9_event 16 = .ok (.aload_n 0, 1) := by decide +kernel
theorem dX9_event_17 : decode cX9_event 17 = .ok (.getfield 10, 3) := by decide +kernel
theorem dX9_event_20 : decode cX9_event 20 = .ok (.getfield 242, 3) := by decide +kernel
theorem dX9_event_23 : decode cX9_event 23 = .ok (.iload_n 1, 1) := by decide +kernel
theorem dX9_event_24 : decode cX9_event 24 = .ok (.iload_n 2, 1) := by decide +kernel
theorem dX9_event_25 : decode cX9_event 25 = .ok (.invokevirtual 246, 3) := by decide +kernel
theorem dX9_event_28 : decode cX9_event 28 = .ok (.ireturn, 1) := by decide +kernel
set_option maxRecDepth 20000 in
theorem ggX9_passesIn_X8_personAt : GoodIn wsX9_passesIn wsX8_personAt := goodIn_r _ [8, 9, 10, 233, 234, 235, 236, 237, 238, 239, 240, 241, 242, 243] (by decide +kernel) (by decide +kernel)
set_option maxRecDepth 20000 in
theorem gX9_passesIn_X8_personAt : GoodIn wsX9_passesIn (wsV RX9 175 RX8 yX8_personAt wsX8_personAt) := goodIn_app (goodIn_of _ (by decide +kernel)) ggX9_passesIn_X8_personAt
set_option maxRecDepth 20000 in
theorem ggX9_passesIn_X5_isWaiting : GoodIn wsX9_passesIn wsX5_isWaiting := goodIn_r _ [15, 16, 226, 227, 228, 229, 230, 231, 232] (by decide +kernel) (by decide +kernel)
set_option maxRecDepth 20000 in
theorem gX9_passesIn_X5_isWaiting : GoodIn wsX9_passesIn (wsV RX9 196 RX5 yX5_isWaiting wsX5_isWaiting) := goodIn_app (goodIn_of _ (by decide +kernel)) ggX9_passesIn_X5_isWaiting
set_option maxRecDepth 20000 in
theorem ggX9_passesIn_X8_copyFrom : GoodIn wsX9_passesIn wsX8_copyFrom := goodIn_r _ [20, 21, 22, 9, 10, 23, 24, 25, 26, 27, 28, 29, 30, 31, 32, 33, 34, 35, 36, 37, 38, 39, 40, 41, 42, 43, 44, 45, 46, 47, 48, 49, 50, 51, 52, 53, 54, 55, 56, 57, 58, 59, 60, 61, 62, 63, 64, 65, 66, 67, 14, 68, 69, 70, 16, 71, 72, 73, 74, 75, 76, 77, 78, 79, 80, 81, 82, 83, 84, 85, 86, 87, 88, 89, 90, 91, 92, 93, 94, 95, 96, 97, 98, 99, 100, 101, 102, 103, 104, 233, 234, 235, 236, 237, 238, 239, 240, 241, 242, 243, 244, 245, 246, 247, 248, 249, 250, 251, 252, 253, 254, 255, 256, 257, 258, 259, 260, 226, 227, 228, 229, 230, 231, 232, 261, 262, 263, 264, 265, 266, 267, 268, 269, 270, 271, 272, 273, 274] (by decide +kernel) (by decide +kernel)
set_option maxRecDepth 20000 in
theorem gX9_passesIn_X8_copyFrom : GoodIn wsX9_passesIn (wsV RX9 125 RX8 yX8_copyFrom wsX8_copyFrom) := goodIn_app (goodIn_of _ (by decide +kernel)) ggX9_passesIn_X8_copyFrom
set_option maxRecDepth 20000 in
theorem ggX9_passesIn_X8_ticksUntilPassed : GoodIn wsX9_passesIn wsX8_ticksUntilPassed := goodIn_r _ [108, 109, 110, 5, 6, 7, 8, 9, 10, 111, 112, 113, 114, 21, 22, 28, 115, 116, 117, 118, 119, 120, 121, 122, 123, 124, 125, 126, 127, 128, 129, 130, 131, 132, 27, 133, 134, 135, 136, 137, 138, 139, 140, 141, 142, 143, 144, 145, 146, 53, 147, 55, 56, 148, 149, 150, 151, 61, 62, 63, 64, 152, 153, 154, 155, 156, 157, 158, 159, 160, 161, 29, 162, 163, 164, 165, 25, 26, 166, 167, 168, 169, 23, 24, 170, 171, 172, 14, 173, 16, 71, 72, 174, 175, 176, 96, 177, 104, 98, 100, 101, 102, 103, 178, 58, 59, 60, 179, 180, 181, 182, 183, 184, 185, 186, 187, 188, 189, 190, 33, 191, 41, 42, 192, 193, 194, 195, 196, 197, 198, 199, 200, 201, 202, 203, 204, 205, 206, 207, 208, 209, 210, 211, 212, 213, 214, 215, 216, 217, 218, 219, 220, 221, 226, 227, 228, 229, 230, 231, 232, 233, 234, 235, 236, 237, 238, 239, 240, 241, 242, 243, 244, 245, 246, 247, 248, 249, 250, 251, 252, 253, 254, 255, 256, 257, 258, 259, 260, 266, 267, 268, 261, 262, 263, 264, 265, 269, 270, 271, 272, 273, 274] (by decide +kernel) (by decide +kernel)
set_option maxRecDepth 20000 in
theorem gX9_passesIn_X8_ticksUntilPassed : GoodIn wsX9_passesIn (wsV RX9 251 RX8 yX8_ticksUntilPassed wsX8_ticksUntilPassed) := goodIn_app (goodIn_of _ (by decide +kernel)) ggX9_passesIn_X8_ticksUntilPassed
theorem dX9_passesIn_0 : decode cX9_passesIn 0 = .ok (.aload_n 0, 1) := by decide +kernel
theorem dX9_passesIn_1 : decode cX9_passesIn 1 = .ok (.getfield 10, 3) := by decide +kernel
theorem dX9_passesIn_4 : decode cX9_passesIn 4 = .ok (.iload_n 1, 1) := by decide +kernel
