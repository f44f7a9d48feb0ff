theorem dX9_setFare_13 : decode cX9_setFare 13 = .ok (.getfield 10, 3) := by decide +kernel
theorem dX9_setFare_16 : decode cX9_setFare 16 = .ok (.iload_n 1, 1) := by decide +kernel
theorem dX9_setFare_17 : decode cX9_setFare 17 = .ok (.invokevirtual 62, 3) := by decide +kernel
theorem dX9_setFare_20 : decode cX9_setFare 20 = .ok (.invokevirtual 41, 3) := by decide +kernel
theorem dX9_setFare_23 : decode cX9_setFare 23 = .ok (.ireturn, 1) := by decide +kernel
set_option maxRecDepth 20000 in
theorem ggX9_enter_X2_prepare : GoodIn wsX9_enter wsX2_prepare := goodIn_r _ [7, 8, 9, 10, 11, 12, 6, 13, 14, 15, 16, 17, 18, 19, 20, 21, 22, 23, 24, 25, 26, 27, 28, 29, 30, 31, 32, 33, 34, 35, 36, 37, 38, 39, 40, 41, 42, 43, 44, 45, 46, 47, 48, 49, 50, 51, 52, 53, 54, 55, 56, 57, 58, 59, 60, 61, 62, 63, 64, 65, 66, 67, 68, 69, 70, 71, 72, 73, 74, 75, 76, 77, 78, 79, 80, 81, 82, 83, 84, 85, 86, 87, 88, 89, 90, 91, 92, 93, 94, 95, 96, 97, 98, 99, 100, 101, 102, 103, 104, 105, 106, 107, 108, 109, 110, 111, 150, 151, 152, 153, 154, 155, 156, 157, 158, 159, 160, 161, 162, 163, 164, 165, 166, 167, 168, 169, 170, 171, 172, 173, 174, 175, 176, 177, 178, 179, 180, 181, 182, 183, 184, 185, 186, 187, 188, 189, 190, 191, 192, 193, 194, 195, 196, 197, 198, 199, 200, 201] (by decide +kernel) (by decide +kernel)
set_option maxRecDepth 20000 in
theorem gX9_enter_X2_prepare : GoodIn wsX9_enter (wsV RX9 33 RX2 yX2_prepare wsX2_prepare) := goodIn_app (goodIn_of _ (by decide +kernel)) ggX9_enter_X2_prepare
set_option maxRecDepth 20000 in
theorem ggX9_enter_X8_comeIn : GoodIn wsX9_enter wsX8_comeIn := goodIn_r _ [115, 26, 27, 33, 116, 117, 118, 119, 22, 120, 24, 25, 121, 122, 123, 124, 30, 31, 125, 126, 127, 73, 128, 75, 76, 79, 129, 130, 131, 132, 78, 77, 80, 81, 133, 134, 135, 58, 136, 60, 61, 153, 154, 155, 156, 157, 158, 159, 160, 161, 162, 163, 164, 165, 166, 167, 168, 169, 170, 171, 172, 173, 174, 175, 176, 177, 178, 181, 182, 183, 184, 185, 186, 187, 179, 180] (by decide +kernel) (by decide +kernel)
set_option maxRecDepth 20000 in
theorem gX9_enter_X8_comeIn : GoodIn wsX9_enter (wsV RX9 65 RX8 yX8_comeIn wsX8_comeIn) := goodIn_app (goodIn_of _ (by decide +kernel)) ggX9_enter_X8_comeIn
set_option maxRecDepth 20000 in
theorem ggX9_enter_X9_recorded : GoodIn wsX9_enter wsX9_recorded := goodIn_r _ [141, 1, 142, 143, 144, 6, 145, 9, 14, 10, 11, 12, 13, 15, 16, 17, 18, 146, 147, 148, 149, 150, 151, 152] (by decide +kernel) (by decide +kernel)
set_option maxRecDepth 20000 in
theorem gX9_enter_X9_recorded : GoodIn wsX9_enter (wsV RX9 41 RX9 yX9_recorded wsX9_recorded) := goodIn_app (goodIn_of _ (by decide +kernel)) ggX9_enter_X9_recorded
theorem dX9_enter_0 : decode cX9_enter 0 = .ok (.aload_n 0, 1) := by decide +kernel
theorem dX9_enter_1 : decode cX9_enter 1 = .ok (.getfield 22, 3) := by decide +kernel
theorem dX9_enter_4 : decode cX9_enter 4 = .ok (.aload_n 0, 1) := by decide +kernel
theorem dX9_enter_5 : decode cX9_enter 5 = .ok (.getfield 10, 3) := by decide +kernel
theorem dX9_enter_8 : decode cX9_enter 8 = .ok (.invokevirtual 33, 3) := by decide +kernel
theorem dX9_enter_11 : decode cX9_enter 11 = .ok (.aload_n 0, 1) := by decide +kernel
theorem dX9_enter_12 : decode cX9_enter 12 = .ok (.aload_n 0, 1) := by decide +kernel
theorem dX9_enter_13 : decode cX9_enter 13 = .ok (.getfield 10, 3) := by decide +kernel
theorem dX9_enter_16 : decode cX9_enter 16 = .ok (.iload_n 1, 1) := by decide +kernel
theorem dX9_enter_17 : decode cX9_enter 17 = .ok (.iload_n 2, 1) := by decide +kernel
theorem dX9_enter_18 : decode cX9_enter 18 = .ok (.iload_n 3, 1) := by decide +kernel
theorem dX9_enter_19 : decode cX9_enter 19 = .ok (.invokevirtual 65, 3) := by decide +kernel
theorem dX9_enter_22 : decode cX9_enter 22 = .ok (.invokevirtual 41, 3) := by decide +kernel
theorem dX9_enter_25 : decode cX9_enter 25 = .ok (.ireturn, 1) := by decide +kernel
set_option maxRecDepth 20000 in
theorem ggX9_exit_X2_prepare : GoodIn wsX9_exit wsX2_prepare := goodIn_r _ [7, 8, 9, 10, 11, 12, 6, 13, 14, 15, 16, 17, 18, 19, 20, 21, 22, 23, 24, 25, 26, 27, 28, 29, 30, 31, 32, 33, 34, 35, 36, 37, 38, 39, 40, 41, 42, 43, 44, 45, 46, 47, 48, 49, 50, 51, 52, 53, 54, 55, 56, 57, 58, 59, 60, 61, 62, 63, 64, 65, 66, 67, 68, 69, 70, 71, 72, 73, 74, 75, 76, 77, 78, 79, 80, 81, 82, 83, 84, 85, 86, 87, 88, 89, 90, 91, 92, 93, 94, 95, 96, 97, 98, 99, 100, 101, 102, 103, 104, 105, 106, 107, 108, 109, 110, 111, 148, 149, 150, 151, 152, 153, 154, 155, 156, 157, 158, 159, 160, 161, 162, 163, 164, 165, 166, 167, 168, 169, 170, 171, 172, 173, 174, 175, 176, 177, 178, 179, 180, 181, 182, 183, 184, 185, 186, 187, 188, 189, 190, 191, 192, 193, 194, 195, 196, 197, 198, 199] (by decide +kernel) (by decide +kernel)
set_option maxRecDepth 20000 in
theorem gX9_exit_X2_prepare : GoodIn wsX9_exit (wsV RX9 33 RX2 yX2_prepare wsX2_prepare) := goodIn_app (goodIn_of _ (by decide +kernel)) ggX9_exit_X2_prepare
set_option maxRecDepth 20000 in
theorem ggX9_exit_X8_goOut : GoodIn wsX9_exit wsX8_goOut := goodIn_r _ [115, 116, 33, 117, 118, 119, 120, 121, 22, 122, 24, 25, 123, 124, 125, 126, 26, 27, 127, 128, 129, 73, 130, 78, 77, 80, 81, 131, 132, 133, 58, 134, 60, 61, 179, 180, 181, 182, 183, 184, 185, 151, 152, 153, 154, 155, 156, 157, 158, 159, 160, 161, 162, 163, 164, 165, 166, 167, 168, 169, 170, 171, 172, 173, 174, 175, 176, 177, 178] (by decide +kernel) (by decide +kernel)
set_option maxRecDepth 20000 in
theorem gX9_exit_X8_goOut : GoodIn wsX9_exit (wsV RX9 69 RX8 yX8_goOut wsX8_goOut) := goodIn_app (goodIn_of _ (by decide +kernel)) ggX9_exit_X8_goOut
set_option maxRecDepth 20000 in
theorem ggX9_exit_X9_recorded : GoodIn wsX9_exit wsX9_recorded := goodIn_r _ [139, 1, 140, 141, 142, 6, 143, 9, 14, 10, 11, 12, 13, 15, 16, 17, 18, 144, 145, 146, 147, 148, 149, 150] (by decide +kernel) (by decide +kernel)
set_option maxRecDepth 20000 in
theorem gX9_exit_X9_recorded : GoodIn wsX9_exit (wsV RX9 41 RX9 yX9_recorded wsX9_recorded) := goodIn_app (goodIn_of _ (by decide +kernel)) ggX9_exit_X9_recorded
theorem dX9_exit_0 : decode cX9_exit 0 = .ok (.aload_n 0, 1) := by decide +kernel
theorem dX9_exit_1 : decode cX9_exit 1 = .ok (.getfield 22, 3) := by decide +kernel
theorem dX9_exit_4 : decode cX9_exit 4 = .ok (.aload_n 0, 1) := by decide +kernel
theorem dX9_exit_5 : decode cX9_exit 5 = .ok (.getfield 10, 3) := by decide +kernel
theorem dX9_exit_8 : decode cX9_exit 8 = .ok (.invokevirtual 33, 3) := by decide +kernel
theorem dX9_exit_11 : decode cX9_exit 11 = .ok (.aload_n 0, 1) := by decide +kernel
theorem dX9_exit_12 : decode cX9_exit 12 = .ok (.aload_n 0, 1) := by decide +kernel
theorem dX9_exit_13 : decode cX9_exit 13 = .ok (.getfield 10, 3) := by decide +kernel
theorem dX9_exit_16 : decode cX9_exit 16 = .ok (.iload_n 1, 1) := by decide +kernel
theorem dX9_exit_17 : decode cX9_exit 17 = .ok (.iload_n 2, 1) := by decide +kernel
theorem dX9_exit_18 : decode cX9_exit 18 = .ok (.invokevirtual 69, 3) := by decide +kernel
theorem dX9_exit_21 : decode cX9_exit 21 = .ok (.invokevirtual 41, 3) := by decide +kernel
theorem dX9_exit_24 : decode cX9_exit 24 = .ok (.ireturn, 1) := by decide +kernel
set_option maxRecDepth 20000 in
theorem ggX9_divert_X2_prepare : GoodIn wsX9_divert wsX2_prepare := goodIn_r _ [7, 8, 9, 10, 11, 12, 6, 13, 14, 15, 16, 17, 18, 19, 20, 21, 22, 23, 24, 25, 26, 27, 28, 29, 30, 31, 32, 33, 34, 35, 36, 37, 38, 39, 40, 41, 42, 43, 44, 45, 46, 47, 48, 49, 50, 51, 52, 53, 54, 55, 56, 57, 58, 59, 60, 61, 62, 63, 64, 65, 66, 67, 68, 69, 70, 71, 72, 73, 74, 75, 76, 77, 78, 79, 80, 81, 82, 83, 84, 85, 86, 87, 88, 89, 90, 91, 92, 93, 94, 95, 96, 97, 98, 99, 100, 101, 102, 103, 104, 105, 106, 107, 108, 109, 110, 111, 158, 159, 160, 161, 162, 163, 164, 165, 166, 167, 168, 169, 170, 171, 172, 173, 174, 175, 176, 177, 178, 179, 180, 181, 182, 183, 184, 185, 186, 187, 188, 189, 190, 191, 192, 193, 194, 195, 196, 197, 198, 199, 200, 201, 202, 203, 204, 205, 206, 207, 208, 209] (by decide +kernel) (by decide +kernel)
set_option maxRecDepth 20000 in
theorem gX9_divert_X2_prepare : GoodIn wsX9_divert (wsV RX9 33 RX2 yX2_prepare wsX2_prepare) := goodIn_app (goodIn_of _ (by decide +kernel)) ggX9_divert_X2_prepare
set_option maxRecDepth 20000 in
theorem ggX9_divert_X8_moveQueues : GoodIn wsX9_divert wsX8_moveQueues := goodIn_r _ [115, 116, 117, 118, 119, 120, 22, 121, 24, 25, 122, 123, 124, 38, 125, 40, 126, 41, 127, 128, 129, 130, 131, 132, 133, 134, 135, 58, 136, 60, 61, 137, 138, 139, 140, 26, 27, 141, 142, 143, 144, 172, 173, 174, 175, 176, 177, 178, 179, 180, 181, 182, 183, 184, 185, 186, 161, 162, 163, 164, 165, 166, 167, 168, 169, 170, 171, 187, 188, 189, 190, 191, 192, 193, 194, 195] (by decide +kernel) (by decide +kernel)
set_option maxRecDepth 20000 in
theorem gX9_divert_X8_moveQueues : GoodIn wsX9_divert (wsV RX9 72 RX8 yX8_moveQueues wsX8_moveQueues) := goodIn_app (goodIn_of _ (by decide +kernel)) ggX9_divert_X8_moveQueues
set_option maxRecDepth 20000 in
theorem ggX9_divert_X9_recorded : GoodIn wsX9_divert wsX9_recorded := goodIn_r _ [149, 1, 150, 151, 152, 6, 153, 9, 14, 10, 11, 12, 13, 15, 16, 17, 18, 154, 155, 156, 157, 158, 159, 160] (by decide +kernel) (by decide +kernel)
set_option maxRecDepth 20000 in
theorem gX9_divert_X9_recorded : GoodIn wsX9_divert (wsV RX9 41 RX9 yX9_recorded wsX9_recorded) := goodIn_app (goodIn_of _ (by decide +kernel)) ggX9_divert_X9_recorded
theorem dX9_divert_0 : decode cX9_divert 0 = .ok (.aload_n 0, 1) := by decide +kernel
theorem dX9_divert_1 : decode cX9_divert 1 = .ok (.getfield 22, 3) := by decide +kernel
theorem dX9_divert_4 : decode cX9_divert 4 = .ok (.aload_n 0, 1) := by decide +kernel
theorem dX9_divert_5 : decode cX9_divert 5 = .ok (.getfield 10, 3) := by decide +kernel
theorem dX9_divert_8 : decode cX9_divert 8 = .ok (.invokevirtual 33, 3) := by decide +kernel
theorem dX9_divert_11 : decode cX9_divert 11 = .ok (.aload_n 0, 1) := by decide +kernel
theorem dX9_divert_12 : decode cX9_divert 12 = .ok (.aload_n 0, 1) := by decide +kernel
theorem dX9_divert_13 : decode cX9_divert 13 = .ok (.getfield 10, 3) := by decide +kernel
theorem dX9_divert_16 : decode cX9_divert 16 = .ok (.iload_n 1, 1) := by decide +kernel
theorem dX9_divert_17 : decode cX9_divert 17 = .ok (.iload_n 2, 1) := by decide +kernel
theorem dX9_divert_18 : decode cX9_divert 18 = .ok (.invokevirtual 72, 3) := by decide +kernel
theorem dX9_divert_21 : decode cX9_divert 21 = .ok (.invokevirtual 41, 3) := by decide +kernel
theorem dX9_divert_24 : decode cX9_divert 24 = .ok (.ireturn, 1) := by decide +kernel
set_option maxRecDepth 20000 in
theorem ggX9_pinch_X2_prepare : GoodIn wsX9_pinch wsX2_prepare := goodIn_r _ [7, 8, 9, 10, 11, 12, 6, 13, 14, 15, 16, 17, 18, 19, 20, 21, 22, 23, 24, 25, 26, 27, 28, 29, 30, 31, 32, 33, 34, 35, 36, 37, 38, 39, 40, 41, 42, 43, 44, 45, 46, 47, 48, 49, 50, 51, 52, 53, 54, 55, 56, 57, 58, 59, 60, 61, 62, 63, 64, 65, 66, 67, 68, 69, 70, 71, 72, 73, 74, 75, 76, 77, 78, 79, 80, 81, 82, 83, 84, 85, 86, 87, 88, 89, 90, 91, 92, 93, 94, 95, 96, 97, 98, 99, 100, 101, 102, 103, 104, 105, 106, 107, 108, 109, 110, 111, 135, 136, 137, 138, 139, 140, 141, 142, 143, 144, 145, 146, 147, 148, 149, 150, 151, 152, 153, 154, 155, 156, 157, 158, 159, 160, 161, 162, 163, 164, 165, 166, 167, 168, 169, 170, 171, 172, 173, 174, 175, 176, 177, 178, 179, 180, 181, 182, 183, 184, 185, 186] (by decide +kernel) (by decide +kernel)
set_option maxRecDepth 20000 in
theorem gX9_pinch_X2_prepare : GoodIn wsX9_pinch (wsV RX9 33 RX2 yX2_prepare wsX2_prepare) := goodIn_app (goodIn_of _ (by decide +kernel)) ggX9_pinch_X2_prepare
set_option maxRecDepth 20000 in
theorem ggX9_pinch_X8_tellPinch : GoodIn wsX9_pinch wsX8_tellPinch := goodIn_r _ [115, 116, 117, 118, 119, 120, 22, 121, 24, 25, 149, 150, 151, 152, 153, 154, 155, 156, 157, 158, 159, 160, 161, 162, 163, 138, 139, 140, 141, 142, 143, 144, 145, 146, 147, 148] (by decide +kernel) (by decide +kernel)
set_option maxRecDepth 20000 in
theorem gX9_pinch_X8_tellPinch : GoodIn wsX9_pinch (wsV RX9 75 RX8 yX8_tellPinch wsX8_tellPinch) := goodIn_app (goodIn_of _ (by decide +kernel)) ggX9_pinch_X8_tellPinch
set_option maxRecDepth 20000 in
theorem ggX9_pinch_X9_recorded : GoodIn wsX9_pinch wsX9_recorded := goodIn_r _ [126, 1, 127, 128, 129, 6, 130, 9, 14, 10, 11, 12, 13, 15, 16, 17, 18, 131, 132, 133, 134, 135, 136, 137] (by decide +kernel) (by decide +kernel)
set_option maxRecDepth 20000 in
theorem gX9_pinch_X9_recorded : GoodIn wsX9_pinch (wsV RX9 41 RX9 yX9_recorded wsX9_recorded) := goodIn_app (goodIn_of _ (by decide +kernel)) ggX9_pinch_X9_recorded
theorem dX9_pinch_0 : decode cX9_pinch 0 = .ok (.aload_n 0, 1) := by decide +kernel
theorem dX9_pinch_1 : decode cX9_pinch 1 = .ok (.getfield 22, 3) := by decide +kernel
theorem dX9_pinch_4 : decode cX9_pinch 4 = .ok (.aload_n 0, 1) := by decide +kernel
theorem dX9_pinch_5 : decode cX9_pinch 5 = .ok (.getfield 10, 3) := by decide +kernel
theorem dX9_pinch_8 : decode cX9_pinch 8 = .ok (.invokevirtual 33, 3) := by decide +kernel
theorem dX9_pinch_11 : decode cX9_pinch 11 = .ok (.aload_n 0, 1) := by decide +kernel
theorem dX9_pinch_12 : decode cX9_pinch 12 = .ok (.aload_n 0, 1) := by decide +kernel
theorem dX9_pinch_13 : decode cX9_pinch 13 = .ok (.getfield 10, 3) := by decide +kernel
theorem dX9_pinch_16 : decode cX9_pinch 16 = .ok (.iload_n 1, 1) := by decide +kernel
theorem dX9_pinch_17 : decode cX9_pinch 17 = .ok (.invokevirtual 75, 3) := by decide +kernel
theorem dX9_pinch_20 : decode cX9_pinch 20 = .ok (.invokevirtual 41, 3) := by decide +kernel
theorem dX9_pinch_23 : decode cX9_pinch 23 = .ok (.ireturn, 1) := by decide +kernel
set_option maxRecDepth 20000 in
theorem ggX9_fail_X2_prepare : GoodIn wsX9_fail wsX2_prepare := goodIn_r _ [7, 8, 9, 10, 11, 12, 6, 13, 14, 15, 16, 17, 18, 19, 20, 21, 22, 23, 24, 25, 26, 27, 28, 29, 30, 31, 32, 33, 34, 35, 36, 37, 38, 39, 40, 41, 42, 43, 44, 45, 46, 47, 48, 49, 50, 51, 52, 53, 54, 55, 56, 57, 58, 59, 60, 61, 62, 63, 64, 65, 66, 67, 68, 69, 70, 71, 72, 73, 74, 75, 76, 77, 78, 79, 80, 81, 82, 83, 84, 85, 86, 87, 88, 89, 90, 91, 92, 93, 94, 95, 96, 97, 98, 99, 100, 101, 102, 103, 104, 105, 106, 107, 108, 109, 110, 111, 178, 179, 180, 181, 182, 183, 184, 185, 186, 187, 188, 189, 190, 191, 192, 193, 194, 195, 196, 197, 198, 199, 200, 201, 202, 203, 204, 205, 206, 207, 208, 209, 210, 211, 212, 213, 214, 215, 216, 217, 218, 219, 220, 221, 222, 223, 224, 225, 226, 227, 228, 229] (by decide +kernel) (by decide +kernel)
set_option maxRecDepth 20000 in
theorem gX9_fail_X2_prepare : GoodIn wsX9_fail (wsV RX9 33 RX2 yX2_prepare wsX2_prepare) := goodIn_app (goodIn_of _ (by decide +kernel)) ggX9_fail_X2_prepare
set_option maxRecDepth 20000 in
theorem ggX9_fail_X8_putOutOfOrder : GoodIn wsX9_fail wsX8_putOutOfOrder := goodIn_r _ [115, 116, 117, 118, 119, 120, 22, 121, 24, 25, 122, 123, 124, 125, 126, 32, 33, 127, 128, 129, 38, 130, 46, 47, 131, 132, 133, 103, 134, 111, 105, 107, 108, 109, 110, 135, 63, 64, 65, 136, 16, 17, 18, 137, 138, 139, 140, 141, 142, 143, 144, 145, 146, 147, 148, 149, 150, 26, 27, 151, 152, 153, 154, 30, 31, 155, 156, 157, 158, 159, 160, 161, 162, 163, 164, 165, 28, 29, 192, 193, 194, 195, 196, 197, 198, 199, 200, 201, 202, 203, 204, 205, 206, 181, 182, 183, 184, 185, 186, 187, 188, 189, 190, 191, 224, 225, 226, 227, 228, 229, 209, 210, 211, 212, 213, 214, 215, 221, 222, 223, 216, 217, 218, 219, 220] (by decide +kernel) (by decide +kernel)
set_option maxRecDepth 20000 in
theorem gX9_fail_X8_putOutOfOrder : GoodIn wsX9_fail (wsV RX9 78 RX8 yX8_putOutOfOrder wsX8_putOutOfOrder) := goodIn_app (goodIn_of _ (by decide +kernel)) ggX9_fail_X8_putOutOfOrder
set_option maxRecDepth 20000 in
theorem ggX9_fail_X9_isError : GoodIn wsX9_fail wsX9_isError := goodIn_r _ [169] (by decide +kernel) (by decide +kernel)
set_option maxRecDepth 20000 in
theorem gX9_fail_X9_isError : GoodIn wsX9_fail (va_wsS RX9 81 yX9_isError wsX9_isError) := goodIn_app (goodIn_of _ (by decide +kernel)) ggX9_fail_X9_isError
set_option maxRecDepth 20000 in
theorem ggX9_fail_X2_keep : GoodIn wsX9_fail wsX2_keep := goodIn_r _ [173, 9, 14, 10, 11, 12, 6, 13, 15, 16, 17, 18, 178, 179, 180] (by decide +kernel) (by decide +kernel)
set_option maxRecDepth 20000 in
theorem gX9_fail_X2_keep : GoodIn wsX9_fail (wsV RX9 85 RX2 yX2_keep wsX2_keep) := goodIn_app (goodIn_of _ (by decide +kernel)) ggX9_fail_X2_keep
theorem dX9_fail_0 : decode cX9_fail 0 = .ok (.aload_n 0, 1) := by decide +kernel
theorem dX9_fail_1 : decode cX9_fail 1 = .ok (.getfield 22, 3) := by decide +kernel
theorem dX9_fail_4 : decode cX9_fail 4 = .ok (.aload_n 0, 1) := by decide +kernel
theorem dX9_fail_5 : decode cX9_fail 5 = .ok (.getfield 10, 3) := by decide +kernel
theorem dX9_fail_8 : decode cX9_fail 8 = .ok (.invokevirtual 33, 3) := by decide +kernel
theorem dX9_fail_11 : decode cX9_fail 11 = .ok (.aload_n 0, 1) := by decide +kernel
theorem dX9_fail_12 : decode cX9_fail 12 = .ok (.getfield 10, 3) := by decide +kernel
theorem dX9_fail_15 : decode cX9_fail 15 = .ok (.iload_n 1, 1) := by decide +kernel
theorem dX9_fail_16 : decode cX9_fail 16 = .ok (.invokevirtual 78, 3) := by decide +kernel
theorem dX9_fail_19 : decode cX9_fail 19 = .ok (.istore_n 2, 1) := by decide +kernel
theorem dX9_fail_20 : decode cX9_fail 20 = .ok (.iload_n 2, 1) := by decide +kernel
theorem dX9_fail_21 : decode cX9_fail 21 = .ok (.invokestatic 81, 3) := by decide +kernel
theorem dX9_fail_24 : decode cX9_fail 24 = .ok (.ifCond .ne 10, 3) := by decide +kernel
theorem dX9_fail_27 : decode cX9_fail 27 = .ok (.aload_n 0, 1) := by decide +kernel
theorem dX9_fail_28 : decode cX9_fail 28 = .ok (.getfield 22, 3) := by decide +kernel
theorem dX9_fail_31 : decode cX9_fail 31 = .ok (.invokevirtual 85, 3) := by decide +kernel
theorem dX9_fail_34 : decode cX9_fail 34 = .ok (.iload_n 2, 1) := by decide +kernel
theorem dX9_fail_35 : decode cX9_fail 35 = .ok (.ireturn, 1) := by decide +kernel
set_option maxRecDepth 20000 in
theorem ggX9_repair_X2_prepare : GoodIn wsX9_repair wsX2_prepare := goodIn_r _ [7, 8, 9, 10, 11, 12, 6, 13, 14, 15, 16, 17, 18, 19, 20, 21, 22, 23, 24, 25, 26, 27, 28, 29, 30, 31, 32, 33, 34, 35, 36, 37, 38, 39, 40, 41, 42, 43, 44, 45, 46, 47, 48, 49, 50, 51, 52, 53, 54, 55, 56, 57, 58, 59, 60, 61, 62, 63, 64, 65, 66, 67, 68, 69, 70, 71, 72, 73, 74, 75, 76, 77, 78, 79, 80, 81, 82, 83, 84, 85, 86, 87, 88, 89, 90, 91, 92, 93, 94, 95, 96, 97, 98, 99, 100, 101, 102, 103, 104, 105, 106, 107, 108, 109, 110, 111, 150, 151, 152, 153, 154, 155, 156, 157, 158, 159, 160, 161, 162, 163, 164, 165, 166, 167, 168, 169, 170, 171, 172, 173, 174, 175, 176, 177, 178, 179, 180, 181, 182, 183, 184, 185, 186, 187, 188, 189, 190, 191, 192, 193, 194, 195, 196, 197, 198, 199, 200, 201] (by decide +kernel) (by decide +kernel)
set_option maxRecDepth 20000 in
theorem gX9_repair_X2_prepare : GoodIn wsX9_repair (wsV RX9 33 RX2 yX2_prepare wsX2_prepare) := goodIn_app (goodIn_of _ (by decide +kernel)) ggX9_repair_X2_prepare
set_option maxRecDepth 20000 in
theorem ggX9_repair_X8_putInOrder : GoodIn wsX9_repair wsX8_putInOrder := goodIn_r _ [115, 116, 117, 32, 33, 118, 119, 120, 22, 121, 24, 25, 122, 123, 124, 38, 125, 46, 47, 126, 127, 128, 103, 129, 111, 105, 107, 108, 109, 110, 130, 63, 64, 65, 131, 16, 17, 18, 132, 133, 134, 135, 40, 136, 41, 164, 165, 166, 167, 168, 169, 170, 171, 172, 173, 174, 175, 176, 177, 178, 153, 154, 155, 156, 157, 158, 159, 160, 161, 162, 163, 196, 197, 198, 199, 200, 201, 179, 180] (by decide +kernel) (by decide +kernel)
set_option maxRecDepth 20000 in
theorem gX9_repair_X8_putInOrder : GoodIn wsX9_repair (wsV RX9 88 RX8 yX8_putInOrder wsX8_putInOrder) := goodIn_app (goodIn_of _ (by decide +kernel)) ggX9_repair_X8_putInOrder
set_option maxRecDepth 20000 in
theorem ggX9_repair_X9_recorded : GoodIn wsX9_repair wsX9_recorded := goodIn_r _ [141, 1, 142, 143, 144, 6, 145, 9, 14, 10, 11, 12, 13, 15, 16, 17, 18, 146, 147, 148, 149, 150, 151, 152] (by decide +kernel) (by decide +kernel)
set_option maxRecDepth 20000 in
theorem gX9_repair_X9_recorded : GoodIn wsX9_repair (wsV RX9 41 RX9 yX9_recorded wsX9_recorded) := goodIn_app (goodIn_of _ (by decide +kernel)) ggX9_repair_X9_recorded
theorem dX9_repair_0 : decode cX9_repair 0 = .ok (.aload_n 0, 1) := by decide +kernel
theorem dX9_repair_1 : decode cX9_repair 1 = .ok (.getfield 22, 3) := by decide +kernel
theorem dX9_repair_4 : decode cX9_repair 4 = .ok (.aload_n 0, 1) := by decide +kernel
theorem dX9_repair_5 : decode cX9_repair 5 = .ok (.getfield 10, 3) := by decide +kernel
theorem dX9_repair_8 : decode cX9_repair 8 = .ok (.invokevirtual 33, 3) := by decide +kernel
theorem dX9_repair_11 : decode cX9_repair 11 = .ok (.aload_n 0, 1) := by decide +kernel
theorem dX9_repair_12 : decode cX9_repair 12 = .ok (.aload_n 0, 1) := by decide +kernel
theorem dX9_repair_13 : decode cX9_repair 13 = .ok (.getfield 10, 3) := by decide +kernel
theorem dX9_repair_16 : decode cX9_repair 16 = .ok (.iload_n 1, 1) := by decide +kernel
theorem dX9_repair_17 : decode cX9_repair 17 = .ok (.invokevirtual 88, 3) := by decide +kernel
theorem dX9_repair_20 : decode cX9_repair 20 = .ok (.invokevirtual 41, 3) := by decide +kernel
theorem dX9_repair_23 : decode cX9_repair 23 = .ok (.ireturn, 1) := by decide +kernel
set_option maxRecDepth 20000 in
theorem ggX9_pass_X2_prepare : GoodIn wsX9_pass wsX2_prepare := goodIn_r _ [7, 8, 9, 10, 11, 12, 6, 13, 14, 15, 16, 17, 18, 19, 20, 21, 22, 23, 24, 25, 26, 27, 28, 29, 30, 31, 32, 33, 34, 35, 36, 37, 38, 39, 40, 41, 42, 43, 44, 45, 46, 47, 48, 49, 50, 51, 52, 53, 54, 55, 56, 57, 58, 59, 60, 61, 62, 63, 64, 65, 66, 67, 68, 69, 70, 71, 72, 73, 74, 75, 76, 77, 78, 79, 80, 81, 82, 83, 84, 85, 86, 87, 88, 89, 90, 91, 92, 93, 94, 95, 96, 97, 98, 99, 100, 101, 102, 103, 104, 105, 106, 107, 108, 109, 110, 111, 237, 238, 239, 240, 241, 242, 243, 244, 245, 246, 247, 248, 249, 250, 251, 252, 253, 254, 255, 256, 257, 258, 259, 260, 261, 262, 263, 264, 265, 266, 267, 268, 269, 270, 271, 272, 273, 274, 275, 276, 277, 278, 279, 280, 281, 282, 283, 284, 285, 286, 287, 288] (by decide +kernel) (by decide +kernel)
set_option maxRecDepth 20000 in
theorem gX9_pass_X2_prepare : GoodIn wsX9_pass (wsV RX9 33 RX2 yX2_prepare wsX2_prepare) := goodIn_app (goodIn_of _ (by decide +kernel)) ggX9_pass_X2_prepare
set_option maxRecDepth 20000 in
theorem ggX9_pass_X8_letTicksGo : GoodIn wsX9_pass wsX8_letTicksGo := goodIn_r _ [115, 24, 25, 33, 116, 117, 118, 119, 120, 121, 22, 122, 123, 124, 125, 126, 127, 128, 129, 130, 131, 132, 133, 32, 134, 135, 136, 137, 138, 139, 140, 141, 142, 143, 144, 145, 146, 147, 148, 58, 149, 60, 61, 150, 151, 152, 153, 26, 27, 154, 155, 156, 157, 66, 67, 68, 69, 158, 159, 160, 161, 162, 163, 164, 165, 166, 167, 34, 168, 169, 170, 171, 30, 31, 172, 173, 174, 175, 28, 29, 176, 177, 178, 73, 179, 77, 78, 79, 180, 181, 182, 103, 183, 111, 105, 107, 108, 109, 110, 184, 63, 64, 65, 185, 16, 17, 18, 186, 187, 188, 189, 190, 191, 192, 193, 38, 194, 46, 47, 195, 196, 197, 198, 199, 200, 201, 202, 203, 204, 205, 206, 207, 208, 209, 210, 211, 212, 213, 214, 215, 216, 217, 218, 219, 220, 221, 222, 223, 224, 240, 241, 242, 243, 244, 245, 246, 247, 248, 249, 250, 251, 252, 253, 254, 255, 256, 257, 258, 259, 260, 261, 262, 263, 264, 265, 268, 269, 270, 271, 272, 273, 274, 266, 267, 280, 281, 282, 275, 276, 277, 278, 279, 283, 284, 285, 286, 287, 288] (by decide +kernel) (by decide +kernel)
set_option maxRecDepth 20000 in
theorem gX9_pass_X8_letTicksGo : GoodIn wsX9_pass (wsV RX9 91 RX8 yX8_letTicksGo wsX8_letTicksGo) := goodIn_app (goodIn_of _ (by decide +kernel)) ggX9_pass_X8_letTicksGo
set_option maxRecDepth 20000 in
theorem ggX9_pass_X9_recorded : GoodIn wsX9_pass wsX9_recorded := goodIn_r _ [228, 1, 229, 230, 231, 6, 232, 9, 14, 10, 11, 12, 13, 15, 16, 17, 18, 233, 234, 235, 236, 237, 238, 239] (by decide +kernel) (by decide +kernel)
set_option maxRecDepth 20000 in
theorem gX9_pass_X9_recorded : GoodIn wsX9_pass (wsV RX9 41 RX9 yX9_recorded wsX9_recorded) := goodIn_app (goodIn_of _ (by decide +kernel)) ggX9_pass_X9_recorded
theorem dX9_pass_0 : decode cX9_pass 0 = .ok (.aload_n 0, 1) := by decide +kernel
theorem dX9_pass_1 : decode cX9_pass 1 = .ok (.getfield 22, 3) := by decide +kernel
theorem dX9_pass_4 : decode cX9_pass 4 = .ok (.aload_n 0, 1) := by decide +kernel
theorem dX9_pass_5 : decode cX9_pass 5 = .ok (.getfield 10, 3) := by decide +kernel
theorem dX9_pass_8 : decode cX9_pass 8 = .ok (.invokevirtual 33, 3) := by decide +kernel
theorem dX9_pass_11 : decode cX9_pass 11 = .ok (.aload_n 0, 1) := by decide +kernel
theorem dX9_pass_12 : decode cX9_pass 12 = .ok (.aload_n 0, 1) := by decide +kernel
theorem dX9_pass_13 : decode cX9_pass 13 = .ok (.getfield 10, 3) := by decide +kernel
theorem dX9_pass_16 : decode cX9_pass 16 = .ok (.iload_n 1, 1) := by decide +kernel
theorem dX9_pass_17 : decode cX9_pass 17 = .ok (.invokevirtual 91, 3) := by decide +kernel
theorem dX9_pass_20 : decode cX9_pass 20 = .ok (.invokevirtual 41, 3) := by decide +kernel
theorem dX9_pass_23 : decode cX9_pass 23 = .ok (.ireturn, 1) := by decide +kernel
set_option maxRecDepth 20000 in
theorem ggX9_type_X3_append : GoodIn wsX9_type wsX3_append := goodIn_r _ [6, 7, 8, 13, 14, 15, 16, 17, 18, 19] (by decide +kernel) (by decide +kernel)
set_option maxRecDepth 20000 in
theorem gX9_type_X3_append : GoodIn wsX9_type (wsV RX9 94 RX3 yX3_append wsX3_append) := goodIn_app (goodIn_of _ (by decide +kernel)) ggX9_type_X3_append
theorem dX9_type_0 : decode cX9_type 0 = .ok (.aload_n 0, 1) := by decide +kernel
theorem dX9_type_1 : decode cX9_type 1 = .ok (.getfield 29, 3) := by decide +kernel
theorem dX9_type_4 : decode cX9_type 4 = .ok (.iload_n 1, 1) := by decide +kernel
theorem dX9_type_5 : decode cX9_type 5 = .ok (.invokevirtual 94, 3) := by decide +kernel
theorem dX9_type_8 : decode cX9_type 8 = .ok (.ireturn, 1) := by decide +kernel
set_option maxRecDepth 20000 in
theorem ggX9_clearText_X3_erase : GoodIn wsX9_clearText wsX3_erase := goodIn_r _ [6, 7, 12, 13, 14, 15, 16, 17, 18] (by decide +kernel) (by decide +kernel)
set_option maxRecDepth 20000 in
theorem gX9_clearText_X3_erase : GoodIn wsX9_clearText (wsV RX9 98 RX3 yX3_erase wsX3_erase) := goodIn_app (goodIn_of _ (by decide +kernel)) ggX9_clearText_X3_erase
theorem dX9_clearText_0 : decode cX9_clearText 0 = .ok (.aload_n 0, 1) := by decide +kernel
theorem dX9_clearText_1 : decode cX9_clearText 1 = .ok (.getfield 29, 3) := by decide +kernel
theorem dX9_clearText_4 : decode cX9_clearText 4 = .ok (.invokevirtual 98, 3) := by decide +kernel
theorem dX9_clearText_7 : decode cX9_clearText 7 = .ok (.ireturn, 1) := by decide +kernel
set_option maxRecDepth 20000 in
theorem ggX9_run_X3_findFault : GoodIn wsX9_run wsX3_findFault := goodIn_r _ [9, 10, 11, 12, 13, 14, 8, 15, 16, 17, 18, 19, 20, 21, 22, 23, 24, 25, 26, 27, 28, 29, 30, 31, 32, 33, 34, 35, 36, 37, 38, 39, 40, 41, 42, 43, 44, 328, 329, 330, 331, 332, 333, 334] (by decide +kernel) (by decide +kernel)
set_option maxRecDepth 20000 in
theorem gX9_run_X3_findFault : GoodIn wsX9_run (wsV RX9 106 RX3 yX3_findFault wsX3_findFault) := goodIn_app (goodIn_of _ (by decide +kernel)) ggX9_run_X3_findFault
set_option maxRecDepth 20000 in
theorem ggX9_run_X2_prepare : GoodIn wsX9_run wsX2_prepare := goodIn_r _ [49, 50, 51, 52, 53, 54, 48, 55, 56, 57, 58, 59, 60, 61, 62, 63, 64, 65, 66, 67, 68, 69, 70, 71, 72, 73, 74, 75, 76, 77, 78, 79, 80, 81, 82, 83, 84, 85, 86, 87, 88, 89, 90, 91, 92, 93, 94, 95, 96, 97, 98, 99, 100, 101, 102, 103, 104, 105, 106, 107, 108, 109, 110, 111, 112, 113, 114, 115, 116, 117, 118, 119, 120, 121, 122, 123, 124, 125, 126, 127, 128, 129, 130, 131, 132, 133, 134, 135, 136, 137, 138, 139, 140, 141, 142, 143, 144, 145, 146, 147, 148, 149, 150, 151, 152, 153, 335, 336, 337, 317, 318, 319, 320, 321, 322, 323, 324, 325, 326, 327, 338, 339, 340, 341, 342, 343, 344, 345, 346, 347, 348, 349, 350, 351, 352, 353, 354, 355, 356, 357, 358, 359, 360, 361, 362, 363, 364, 365, 366, 367, 368, 369, 370, 371, 372, 373, 374, 375] (by decide +kernel) (by decide +kernel)
set_option maxRecDepth 20000 in
theorem gX9_run_X2_prepare : GoodIn wsX9_run (wsV RX9 33 RX2 yX2_prepare wsX2_prepare) := goodIn_app (goodIn_of _ (by decide +kernel)) ggX9_run_X2_prepare
set_option maxRecDepth 20000 in
theorem ggX9_run_X2_keep : GoodIn wsX9_run wsX2_keep := goodIn_r _ [157, 51, 56, 52, 53, 54, 48, 55, 57, 58, 59, 60, 335, 336, 337] (by decide +kernel) (by decide +kernel)
set_option maxRecDepth 20000 in
theorem gX9_run_X2_keep : GoodIn wsX9_run (wsV RX9 85 RX2 yX2_keep wsX2_keep) := goodIn_app (goodIn_of _ (by decide +kernel)) ggX9_run_X2_keep
set_option maxRecDepth 20000 in
theorem ggX9_run_X3_restart : GoodIn wsX9_run wsX3_restart := goodIn_r _ [15, 10, 328, 329, 330, 331, 332, 333, 334] (by decide +kernel) (by decide +kernel)
set_option maxRecDepth 20000 in
theorem gX9_run_X3_restart : GoodIn wsX9_run (wsV RX9 109 RX3 yX3_restart wsX3_restart) := goodIn_app (goodIn_of _ (by decide +kernel)) ggX9_run_X3_restart
set_option maxRecDepth 20000 in
theorem ggX9_run_X3_readOrder : GoodIn wsX9_run wsX3_readOrder := goodIn_r _ [19, 20, 10, 21, 22, 23, 8, 24, 11, 25, 26, 27, 28, 29, 30, 31, 32, 33, 34, 35, 36, 37, 38, 39, 40, 41, 42, 43, 44, 328, 329, 330, 331, 332, 333, 334] (by decide +kernel) (by decide +kernel)
set_option maxRecDepth 20000 in
theorem gX9_run_X3_readOrder : GoodIn wsX9_run (wsV RX9 112 RX3 yX3_readOrder wsX3_readOrder) := goodIn_app (goodIn_of _ (by decide +kernel)) ggX9_run_X3_readOrder
set_option maxRecDepth 20000 in
theorem ggX9_run_X9_carryOut : GoodIn wsX9_run wsX9_carryOut := goodIn_r _ [164, 1, 165, 2, 166, 167, 168, 169, 170, 171, 64, 172, 68, 69, 75, 173, 174, 175, 176, 177, 66, 67, 178, 179, 180, 181, 72, 73, 182, 183, 184, 115, 185, 117, 118, 121, 186, 187, 188, 189, 120, 119, 122, 123, 190, 191, 192, 100, 193, 102, 103, 194, 195, 196, 197, 198, 199, 200, 201, 202, 203, 204, 205, 206, 207, 208, 209, 163, 210, 211, 212, 213, 214, 215, 216, 217, 218, 219, 220, 221, 222, 223, 224, 225, 74, 226, 227, 228, 229, 230, 231, 232, 233, 234, 235, 236, 237, 238, 239, 240, 241, 242, 108, 109, 110, 111, 243, 244, 245, 246, 247, 248, 249, 250, 251, 252, 76, 253, 254, 255, 256, 70, 71, 257, 258, 259, 260, 261, 262, 263, 145, 264, 153, 147, 149, 150, 151, 152, 265, 105, 106, 107, 266, 58, 59, 60, 267, 268, 269, 270, 271, 272, 273, 274, 80, 275, 88, 89, 276, 277, 278, 279, 280, 281, 282, 283, 284, 285, 286, 287, 288, 289, 290, 291, 292, 293, 294, 295, 296, 297, 298, 299, 300, 301, 302, 303, 304, 305, 306, 307, 308, 309, 313, 314, 315, 316, 328, 329, 330, 331, 332, 333, 334, 317, 318, 319, 320, 321, 322, 323, 324, 325, 326, 327, 338, 339, 340, 341, 342, 343, 344, 345, 346, 347, 348, 349, 350, 351, 352, 355, 356, 357, 358, 359, 360, 361, 353, 354, 367, 368, 369, 362, 363, 364, 365, 366, 370, 371, 372, 373, 374, 375] (by decide +kernel) (by decide +kernel)
set_option maxRecDepth 20000 in
theorem gX9_run_X9_carryOut : GoodIn wsX9_run (wsV RX9 115 RX9 yX9_carryOut wsX9_carryOut) := goodIn_app (goodIn_of _ (by decide +kernel)) ggX9_run_X9_carryOut
set_option maxRecDepth 20000 in
theorem ggX9_run_X9_isError : GoodIn wsX9_run wsX9_isError := goodIn_r _ [312] (by decide +kernel) (by decide +kernel)
set_option maxRecDepth 20000 in
theorem gX9_run_X9_isError : GoodIn wsX9_run (va_wsS RX9 81 yX9_isError wsX9_isError) := goodIn_app (goodIn_of _ (by decide +kernel)) ggX9_run_X9_isError
theorem dX9_run_0 : decode cX9_run 0 = .ok (.aload_n 0, 1) := by decide +kernel
theorem dX9_run_1 : decode cX9_run 1 = .ok (.getfield 29, 3) := by decide +kernel
theorem dX9_run_4 : decode cX9_run 4 = .ok (.aload_n 0, 1) := by decide +kernel
theorem dX9_run_5 : decode cX9_run 5 = .ok (.getfield 10, 3) := by decide +kernel
theorem dX9_run_8 : decode cX9_run 8 = .ok (.getfield 102, 3) := by decide +kernel
theorem dX9_run_11 : decode cX9_run 11 = .ok (.invokevirtual 106, 3) := by decide +kernel
theorem dX9_run_14 : decode cX9_run 14 = .ok (.istore_n 1, 1) := by decide +kernel
theorem dX9_run_15 : decode cX9_run 15 = .ok (.iload_n 1, 1) := by decide +kernel
theorem dX9_run_16 : decode cX9_run 16 = .ok (.iconst (-1), 1) := by decide +kernel
theorem dX9_run_17 : decode cX9_run 17 = .ok (.if_icmp .eq 8, 3) := by decide +kernel
theorem dX9_run_20 : decode cX9_run 20 = .ok (.bipush (-100), 2) := by decide +kernel
theorem dX9_run_22 : decode cX9_run 22 = .ok (.iload_n 1, 1) := by decide +kernel
theorem dX9_run_23 : decode cX9_run 23 = .ok (.isub, 1) := by decide +kernel
theorem dX9_run_24 : decode cX9_run 24 = .ok (.ireturn, 1) := by decide +kernel
theorem dX9_run_25 : decode cX9_run 25 = .ok (.aload_n 0, 1) := by decide +kernel
theorem dX9_run_26 : decode cX9_run 26 = .ok (.getfield 22, 3) := by decide +kernel
theorem dX9_run_29 : decode cX9_run 29 = .ok (.aload_n 0, 1) := by decide +kernel
theorem dX9_run_30 : decode cX9_run 30 = .ok (.getfield 10, 3) := by decide +kernel
theorem dX9_run_33 : decode cX9_run 33 = .ok (.invokevirtual 33, 3) := by decide +kernel
theorem dX9_run_36 : decode cX9_run 36 = .ok (.aload_n 0, 1) := by decide +kernel
theorem dX9_run_37 : decode cX9_run 37 = .ok (.getfield 22, 3) := by decide +kernel
theorem dX9_run_40 : decode cX9_run 40 = .ok (.invokevirtual 85, 3) := by decide +kernel
theorem dX9_run_43 : decode cX9_run 43 = .ok (.aload_n 0, 1) := by decide +kernel
theorem dX9_run_44 : decode cX9_run 44 = .ok (.getfield 29, 3) := by decide +kernel
theorem dX9_run_47 : decode cX9_run 47 = .ok (.invokevirtual 109, 3) := by decide +kernel
theorem dX9_run_50 : decode cX9_run 50 = .ok (.iconst 0, 1) := by decide +kernel
theorem dX9_run_51 : decode cX9_run 51 = .ok (.istore_n 2, 1) := by decide +kernel
theorem dX9_run_52 : decode cX9_run 52 = .ok (.iload_n 2, 1) := by decide +kernel
theorem dX9_run_53 : decode cX9_run 53 = .ok (.bipush 50, 2) := by decide +kernel
theorem dX9_run_55 : decode cX9_run 55 = .ok (.if_icmp .ge 36, 3) := by decide +kernel
theorem dX9_run_58 : decode cX9_run 58 = .ok (.aload_n 0, 1) := by decide +kernel
theorem dX9_run_59 : decode cX9_run 59 = .ok (.getfield 29, 3) := by decide +kernel
theorem dX9_run_62 : decode cX9_run 62 = .ok (.aload_n 0, 1) := by decide +kernel
theorem dX9_run_63 : decode cX9_run 63 = .ok (.getfield 10, 3) := by decide +kernel
theorem dX9_run_66 : decode cX9_run 66 = .ok (.getfield 102, 3) := by decide +kernel
theorem dX9_run_69 : decode cX9_run 69 = .ok (.invokevirtual 112, 3) := by decide +kernel
theorem dX9_run_72 : decode cX9_run 72 = .ok (.ifCond .eq 19, 3) := by decide +kernel
theorem dX9_run_75 : decode cX9_run 75 = .ok (.aload_n 0, 1) := by decide +kernel
theorem dX9_run_76 : decode cX9_run 76 = .ok (.invokevirtual 115, 3) := by decide +kernel
theorem dX9_run_79 : decode cX9_run 79 = .ok (.invokestatic 81, 3) := by decide +kernel
theorem dX9_run_82 : decode cX9_run 82 = .ok (.ifCond .ne 9, 3) := by decide +kernel
theorem dX9_run_85 : decode cX9_run 85 = .ok (.iinc 2 1, 3) := by decide +kernel
theorem dX9_run_88 : decode cX9_run 88 = .ok (.goto (-36), 3) := by decide +kernel
theorem dX9_run_91 : decode cX9_run 91 = .ok (.iload_n 2, 1) := by decide +kernel
theorem dX9_run_92 : decode cX9_run 92 = .ok (.ireturn, 1) := by decide +kernel
set_option maxRecDepth 20000 in
theorem ggX9_undo_X2_takeLatest : GoodIn wsX9_undo wsX2_takeLatest := goodIn_r _ [8, 9, 10, 11, 12, 13, 14, 15, 16, 17, 7, 18, 19, 20, 21, 22, 23, 120, 121, 122] (by decide +kernel) (by decide +kernel)
set_option maxRecDepth 20000 in
theorem gX9_undo_X2_takeLatest : GoodIn wsX9_undo (wsV RX9 121 RX2 yX2_takeLatest wsX2_takeLatest) := goodIn_app (goodIn_of _ (by decide +kernel)) ggX9_undo_X2_takeLatest
set_option maxRecDepth 20000 in
theorem ggX9_undo_X8_copyFrom : GoodIn wsX9_undo wsX8_copyFrom := goodIn_r _ [28, 29, 30, 31, 32, 33, 34, 35, 36, 37, 38, 39, 40, 41, 42, 43, 44, 45, 46, 47, 48, 49, 50, 51, 52, 53, 54, 55, 56, 57, 58, 59, 60, 61, 62, 63, 64, 65, 66, 67, 68, 12, 69, 70, 71, 72, 73, 74, 75, 76, 77, 78, 79, 80, 81, 82, 83, 84, 85, 86, 87, 88, 89, 90, 91, 92, 93, 94, 95, 96, 97, 98, 99, 100, 101, 102, 103, 104, 105, 106, 107, 108, 109, 110, 111, 112, 113, 114, 115, 123, 124, 125, 126, 127, 128, 129, 130, 131, 132, 133, 134, 135, 136, 137, 138, 139, 140, 141, 142, 143, 144, 145, 146, 147, 148, 149, 150, 151, 152, 153, 154, 155, 156, 157, 158, 159, 160, 161, 162, 163, 164, 165, 166, 167, 168, 169, 170, 171] (by decide +kernel) (by decide +kernel)
set_option maxRecDepth 20000 in
theorem gX9_undo_X8_copyFrom : GoodIn wsX9_undo (wsV RX9 125 RX8 yX8_copyFrom wsX8_copyFrom) := goodIn_app (goodIn_of _ (by decide +kernel)) ggX9_undo_X8_copyFrom
theorem dX9_undo_0 : decode cX9_undo 0 = .ok (.aload_n 0, 1) := by decide +kernel
theorem dX9_undo_1 : decode cX9_undo 1 = .ok (.getfield 22, 3) := by decide +kernel
theorem dX9_undo_4 : decode cX9_undo 4 = .ok (.getfield 118, 3) := by decide +kernel
theorem dX9_undo_7 : decode cX9_undo 7 = .ok (.ifCond .ne 6, 3) := by decide +kernel
theorem dX9_undo_10 : decode cX9_undo 10 = .ok (.bipush (-5), 2) := by decide +kernel
theorem dX9_undo_12 : decode cX9_undo 12 = .ok (.ireturn, 1) := by decide +kernel
theorem dX9_undo_13 : decode cX9_undo 13 = .ok (.aload_n 0, 1) := by decide +kernel
theorem dX9_undo_14 : decode cX9_undo 14 = .ok (.getfield 10, 3) := by decide +kernel
theorem dX9_undo_17 : decode cX9_undo 17 = .ok (.aload_n 0, 1) := by decide +kernel
theorem dX9_undo_18 : decode cX9_undo 18 = .ok (.getfield 22, 3) := by decide +kernel
theorem dX9_undo_21 : decode cX9_undo 21 = .ok (.invokevirtual 121, 3) := by decide +kernel
theorem dX9_undo_24 : decode cX9_undo 24 = .ok (.invokevirtual 125, 3) := by decide +kernel
theorem dX9_undo_27 : decode cX9_undo 27 = .ok (.aload_n 0, 1) := by decide +kernel
theorem dX9_undo_28 : decode cX9_undo 28 = .ok (.getfield 22, 3) := by decide +kernel
theorem dX9_undo_31 : decode cX9_undo 31 = .ok (.getfield 118, 3) := by decide +kernel
theorem dX9_undo_34 : decode cX9_undo 34 = .ok (.ireturn, 1) := by decide +kernel
set_option maxRecDepth 20000 in
theorem ggX9_gate_X8_gateAt : GoodIn wsX9_gate wsX8_gateAt := goodIn_r _ [18, 19, 20, 42, 43, 44, 45, 46, 47, 48, 49, 50, 51, 52] (by decide +kernel) (by decide +kernel)
set_option maxRecDepth 20000 in
theorem gX9_gate_X8_gateAt : GoodIn wsX9_gate (wsV RX9 128 RX8 yX8_gateAt wsX8_gateAt) := goodIn_app (goodIn_of _ (by decide +kernel)) ggX9_gate_X8_gateAt
theorem dX9_gate_0 : decode cX9_gate 0 = .ok (.aload_n 0, 1) := by decide +kernel
theorem dX9_gate_1 : decode cX9_gate 1 = .ok (.getfield 10, 3) := by decide +kernel
theorem dX9_gate_4 : decode cX9_gate 4 = .ok (.iload_n 1, 1) := by decide +kernel
theorem dX9_gate_5 : decode cX9_gate 5 = .ok (.invokevirtual 128, 3) := by decide +kernel
theorem dX9_gate_8 : decode cX9_gate 8 = .ok (.astore_n 3, 1) := by decide +kernel
theorem dX9_gate_9 : decode cX9_gate 9 = .ok (.aload_n 3, 1) := by decide +kernel
theorem dX9_gate_10 : decode cX9_gate 10 = .ok (.ifnonnull 5, 3) := by decide +kernel
theorem dX9_gate_13 : decode cX9_gate 13 = .ok (.iconst (-1), 1) := by decide +kernel
theorem dX9_gate_14 : decode cX9_gate 14 = .ok (.ireturn, 1) := by decide +kernel
theorem dX9_gate_15 : decode cX9_gate 15 = .ok (.iload_n 2, 1) := by decide +kernel
theorem dX9_gate_16 : decode cX9_gate 16 = .ok (.tableswitch 129 0 10 #[60, 65, 70, 75, 80, 88, 96, 101, 106, 111, 116], 60) := by decide +kernel
theorem dX9_gate_76 : decode cX9_gate 76 = .ok (.aload_n 3, 1) := by decide +kernel
theorem dX9_gate_77 : decode cX9_gate 77 = .ok (.getfield 132, 3) := by decide +kernel
theorem dX9_gate_80 : decode cX9_gate 80 = .ok (.ireturn, 1) := by decide +kernel
theorem dX9_gate_81 : decode cX9_gate 81 = .ok (.aload_n 3, 1) := by decide +kernel
theorem dX9_gate_82 : decode cX9_gate 82 = .ok (.getfield 137, 3) := by decide +kernel
theorem dX9_gate_85 : decode cX9_gate 85 = .ok (.ireturn, 1) := by decide +kernel
theorem dX9_gate_86 : decode cX9_gate 86 = .ok (.aload_n 3, 1) := by decide +kernel
theorem dX9_gate_87 : decode cX9_gate 87 = .ok (.getfield 140, 3) := by decide +kernel
theorem dX9_gate_90 : decode cX9_gate 90 = .ok (.ireturn, 1) := by decide +kernel
theorem dX9_gate_91 : decode cX9_gate 91 = .ok (.aload_n 3, 1) := by decide +kernel
theorem dX9_gate_92 : decode cX9_gate 92 = .ok (.getfield 143, 3) := by decide +kernel
theorem dX9_gate_95 : decode cX9_gate 95 = .ok (.ireturn, 1) := by decide +kernel
theorem dX9_gate_96 : decode cX9_gate 96 = .ok (.aload_n 3, 1) := by decide +kernel
theorem dX9_gate_97 : decode cX9_gate 97 = .ok (.getfield 146, 3) := by decide +kernel
theorem dX9_gate_100 : decode cX9_gate 100 = .ok (.getfield 150, 3) := by decide +kernel
theorem dX9_gate_103 : decode cX9_gate 103 = .ok (.ireturn, 1) := by decide +kernel
theorem dX9_gate_104 : decode cX9_gate 104 = .ok (.aload_n 3, 1) := by decide +kernel
theorem dX9_gate_105 : decode cX9_gate 105 = .ok (.getfield 153, 3) := by decide +kernel
theorem dX9_gate_108 : decode cX9_gate 108 = .ok (.getfield 150, 3) := by decide +kernel
theorem dX9_gate_111 : decode cX9_gate 111 = .ok (.ireturn, 1) := by decide +kernel
theorem dX9_gate_112 : decode cX9_gate 112 = .ok (.aload_n 3, 1) := by decide +kernel
theorem dX9_gate_113 : decode cX9_gate 113 = .ok (.getfield 156, 3) := by decide +kernel
theorem dX9_gate_116 : decode cX9_gate 116 = .ok (.ireturn, 1) := by decide +kernel
theorem dX9_gate_117 : decode cX9_gate 117 = .ok (.aload_n 3, 1) := by decide +kernel
theorem dX9_gate_118 : decode cX9_gate 118 = .ok (.getfield 159, 3) := by decide +kernel
theorem dX9_gate_121 : decode cX9_gate 121 = .ok (.ireturn, 1) := by decide +kernel
theorem dX9_gate_122 : decode cX9_gate 122 = .ok (.aload_n 3, 1) := by decide +kernel
theorem dX9_gate_123 : decode cX9_gate 123 = .ok (.getfield 162, 3) := by decide +kernel
theorem dX9_gate_126 : decode cX9_gate 126 = .ok (.ireturn, 1) := by decide +kernel
theorem dX9_gate_127 : decode cX9_gate 127 = .ok (.aload_n 3, 1) := by decide +kernel
theorem dX9_gate_128 : decode cX9_gate 128 = .ok (.getfield 165, 3) := by decide +kernel
theorem dX9_gate_131 : decode cX9_gate 131 = .ok (.ireturn, 1) := by decide +kernel
theorem dX9_gate_132 : decode cX9_gate 132 = .ok (.aload_n 3, 1) := by decide +kernel
theorem dX9_gate_133 : decode cX9_gate 133 = .ok (.getfield 168, 3) := by decide +kernel
theorem dX9_gate_136 : decode cX9_gate 136 = .ok (.ifCond .eq 7, 3) := by decide +kernel
theorem dX9_gate_139 : decode cX9_gate 139 = .ok (.iconst 1, 1) := by decide +kernel
theorem dX9_gate_140 : decode cX9_gate 140 = .ok (.goto 4, 3) := by decide +kernel
theorem dX9_gate_143 : decode cX9_gate 143 = .ok (.iconst 0, 1) := by decide +kernel
theorem dX9_gate_144 : decode cX9_gate 144 = .ok (.ireturn, 1) := by decide +kernel
theorem dX9_gate_145 : decode cX9_gate 145 = .ok (.bipush (-2), 2) := by decide +kernel
theorem dX9_gate_147 : decode cX9_gate 147 = .ok (.ireturn, 1) := by decide +kernel
set_option maxRecDepth 20000 in
theorem ggX9_queued_X8_gateAt : GoodIn wsX9_queued wsX8_gateAt := goodIn_r _ [8, 9, 10, 37, 38, 39, 40, 41, 42, 43, 44, 45, 46, 47] (by decide +kernel) (by decide +kernel)
set_option maxRecDepth 20000 in
theorem gX9_queued_X8_gateAt : GoodIn wsX9_queued (wsV RX9 128 RX8 yX8_gateAt wsX8_gateAt) := goodIn_app (goodIn_of _ (by decide +kernel)) ggX9_queued_X8_gateAt
set_option maxRecDepth 20000 in
theorem ggX9_queued_X7_personAtPlace : GoodIn wsX9_queued wsX7_personAtPlace := goodIn_r _ [15, 16, 17, 48, 49] (by decide +kernel) (by decide +kernel)
set_option maxRecDepth 20000 in
theorem gX9_queued_X7_personAtPlace : GoodIn wsX9_queued (wsV RX9 172 RX7 yX7_personAtPlace wsX7_personAtPlace) := goodIn_app (goodIn_of _ (by decide +kernel)) ggX9_queued_X7_personAtPlace
theorem dX9_queued_0 : decode cX9_queued 0 = .ok (.aload_n 0, 1) := by decide +kernel
theorem dX9_queued_1 : decode cX9_queued 1 = .ok (.getfield 10, 3) := by decide +kernel
theorem dX9_queued_4 : decode cX9_queued 4 = .ok (.iload_n 1, 1) := by decide +kernel
theorem dX9_queued_5 : decode cX9_queued 5 = .ok (.invokevirtual 128, 3) := by decide +kernel
theorem dX9_queued_8 : decode cX9_queued 8 = .ok (.astore 4, 2) := by decide +kernel
theorem dX9_queued_10 : decode cX9_queued 10 = .ok (.aload 4, 2) := by decide +kernel
theorem dX9_queued_12 : decode cX9_queued 12 = .ok (.ifnonnull 5, 3) := by decide +kernel
theorem dX9_queued_15 : decode cX9_queued 15 = .ok (.iconst (-1), 1) := by decide +kernel
theorem dX9_queued_16 : decode cX9_queued 16 = .ok (.ireturn, 1) := by decide +kernel
theorem dX9_queued_17 : decode cX9_queued 17 = .ok (.iload_n 2, 1) := by decide +kernel
theorem dX9_queued_18 : decode cX9_queued 18 = .ok (.ifCond .lt 12, 3) := by decide +kernel
theorem dX9_queued_21 : decode cX9_queued 21 = .ok (.iload_n 2, 1) := by decide +kernel
theorem dX9_queued_22 : decode cX9_queued 22 = .ok (.iconst 1, 1) := by decide +kernel
theorem dX9_queued_23 : decode cX9_queued 23 = .ok (.if_icmp .gt 7, 3) := by decide +kernel
theorem dX9_queued_26 : decode cX9_queued 26 = .ok (.iload_n 3, 1) := by decide +kernel
theorem dX9_queued_27 : decode cX9_queued 27 = .ok (.ifCond .ge 6, 3) := by decide +kernel
theorem dX9_queued_30 : decode cX9_queued 30 = .ok (.bipush (-2), 2) := by decide +kernel
theorem dX9_queued_32 : decode cX9_queued 32 = .ok (.ireturn, 1) := by decide +kernel
theorem dX9_queued_33 : decode cX9_queued 33 = .ok (.iload_n 2, 1) := by decide +kernel
theorem dX9_queued_34 : decode cX9_queued 34 = .ok (.ifCond .ne 15, 3) := by decide +kernel
theorem dX9_queued_37 : decode cX9_queued 37 = .ok (.aload 4, 2) := by decide +kernel
theorem dX9_queued_39 : decode cX9_queued 39 = .ok (.getfield 146, 3) := by decide +kernel
theorem dX9_queued_42 : decode cX9_queued 42 = .ok (.iload_n 3, 1) := by decide +kernel
theorem dX9_queued_43 : decode cX9_queued 43 = .ok (.invokevirtual 172, 3) := by decide +kernel
theorem dX9_queued_46 : decode cX9_queued 46 = .ok (.goto 12, 3) := by decide +kernel
theorem dX9_queued_49 : decode cX9_queued 49 = .ok (.aload 4, 2) := by decide +kernel
theorem dX9_queued_51 : decode cX9_queued 51 = .ok (.getfield 153, 3) := by decide +kernel
theorem dX9_queued_54 : decode cX9_queued 54 = .ok (.iload_n 3, 1) := by decide +kernel
theorem dX9_queued_55 : decode cX9_queued 55 = .ok (.invokevirtual 172, 3) := by decide +kernel
theorem dX9_queued_58 : decode cX9_queued 58 = .ok (.ireturn, 1) := by decide +kernel
set_option maxRecDepth 20000 in
theorem ggX9_person_X8_personAt : GoodIn wsX9_person wsX8_personAt := goodIn_r _ [13, 14, 15, 33, 34, 35, 36, 37, 38, 39, 40, 41, 42, 43] (by decide +kernel) (by decide +kernel)
set_option maxRecDepth 20000 in
theorem gX9_person_X8_personAt : GoodIn wsX9_person (wsV RX9 175 RX8 yX8_personAt wsX8_personAt) := goodIn_app (goodIn_of _ (by decide +kernel)) ggX9_person_X8_personAt
set_option maxRecDepth 20000 in
theorem ggX9_person_X5_isWaiting : GoodIn wsX9_person wsX5_isWaiting := goodIn_r _ [20, 21, 26, 27, 28, 29, 30, 31, 32] (by decide +kernel) (by decide +kernel)
set_option maxRecDepth 20000 in
theorem gX9_person_X5_isWaiting : GoodIn wsX9_person (wsV RX9 196 RX5 yX5_isWaiting wsX5_isWaiting) := goodIn_app (goodIn_of _ (by decide +kernel)) ggX9_person_X5_isWaiting
theorem dX9_person_0 : decode cX9_person 0 = .ok (.aload_n 0, 1) := by decide +kernel
theorem dX9_person_1 : decode cX9_person 1 = .ok (.getfield 10, 3) := by decide +kernel
theorem dX9_person_4 : decode cX9_person 4 = .ok (.iload_n 1, 1) := by decide +kernel
theorem dX9_person_5 : decode cX9_person 5 = .ok (.invokevirtual 175, 3) := by decide +kernel
theorem dX9_person_8 : decode cX9_person 8 = .ok (.astore_n 3, 1) := by decide +kernel
theorem dX9_person_9 : decode cX9_person 9 = .ok (.aload_n 3, 1) := by decide +kernel
theorem dX9_person_10 : decode cX9_person 10 = .ok (.ifnonnull 5, 3) := by decide +kernel
theorem dX9_person_13 : decode cX9_person 13 = .ok (.iconst (-1), 1) := by decide +kernel
theorem dX9_person_14 : decode cX9_person 14 = .ok (.ireturn, 1) := by decide +kernel
theorem dX9_person_15 : decode cX9_person 15 = .ok (.iload_n 2, 1) := by decide +kernel
theorem dX9_person_16 : decode cX9_person 16 = .ok (.tableswitch 97 0 5 #[40, 45, 50, 63, 68, 73], 40) := by decide +kernel
theorem dX9_person_56 : decode cX9_person 56 = .ok (.aload_n 3, 1) := by decide +kernel
theorem dX9_person_57 : decode cX9_person 57 = .ok (.getfield 179, 3) := by decide +kernel
theorem dX9_person_60 : decode cX9_person 60 = .ok (.ireturn, 1) := by decide +kernel
theorem dX9_person_61 : decode cX9_person 61 = .ok (.aload_n 3, 1) := by decide +kernel
theorem dX9_person_62 : decode cX9_person 62 = .ok (.getfield 184, 3) := by decide +kernel
theorem dX9_person_65 : decode cX9_person 65 = .ok (.ireturn, 1) := by decide +kernel
theorem dX9_person_66 : decode cX9_person 66 = .ok (.aload_n 3, 1) := by decide +kernel
theorem dX9_person_67 : decode cX9_person 67 = .ok (.getfield 187, 3) := by decide +kernel
theorem dX9_person_70 : decode cX9_person 70 = .ok (.ifCond .eq 7, 3) := by decide +kernel
theorem dX9_person_73 : decode cX9_person 73 = .ok (.iconst 1, 1) := by decide +kernel
theorem dX9_person_74 : decode cX9_person 74 = .ok (.goto 4, 3) := by decide +kernel
theorem dX9_person_77 : decode cX9_person 77 = .ok (.iconst 0, 1) := by decide +kernel
theorem dX9_person_78 : decode cX9_person 78 = .ok (.ireturn, 1) := by decide +kernel
theorem dX9_person_79 : decode cX9_person 79 = .ok (.aload_n 3, 1) := by decide +kernel
theorem dX9_person_80 : decode cX9_person 80 = .ok (.getfield 190, 3) := by decide +kernel
theorem dX9_person_83 : decode cX9_person 83 = .ok (.ireturn, 1) := by decide +kernel
theorem dX9_person_84 : decode cX9_person 84 = .ok (.aload_n 3, 1) := by decide +kernel
theorem dX9_person_85 : decode cX9_person 85 = .ok (.getfield 193, 3) := by decide +kernel
theorem dX9_person_88 : decode cX9_person 88 = .ok (.ireturn, 1) := by decide +kernel
theorem dX9_person_89 : decode cX9_person 89 = .ok (.aload_n 3, 1) := by decide +kernel
theorem dX9_person_90 : decode cX9_person 90 = .ok (.invokevirtual 196, 3) := by decide +kernel
theorem dX9_person_93 : decode cX9_person 93 = .ok (.ifCond .eq 18, 3) := by decide +kernel
theorem dX9_person_96 : decode cX9_person 96 = .ok (.aload_n 0, 1) := by decide +kernel
theorem dX9_person_97 : decode cX9_person 97 = .ok (.getfield 10, 3) := by decide +kernel
theorem dX9_person_100 : decode cX9_person 100 = .ok (.getfield 200, 3) := by decide +kernel
theorem dX9_person_103 : decode cX9_person 103 = .ok (.aload_n 3, 1) := by decide +kernel
theorem dX9_person_104 : decode cX9_person 104 = .ok (.getfield 203, 3) := by decide +kernel
theorem dX9_person_107 : decode cX9_person 107 = .ok (.isub, 1) := by decide +kernel
theorem dX9_person_108 : decode cX9_person 108 = .ok (.goto 4, 3) := by decide +kernel
theorem dX9_person_111 : decode cX9_person 111 = .ok (.iconst 0, 1) := by decide +kernel
theorem dX9_person_112 : decode cX9_person 112 = .ok (.ireturn, 1) := by decide +kernel
theorem dX9_person_113 : decode cX9_person 113 = .ok (.bipush (-2), 2) := by decide +kernel
theorem dX9_person_115 : decode cX9_person 115 = .ok (.ireturn, 1) := by decide +kernel
set_option maxRecDepth 20000 in
theorem ggX9_pool_X8_poolAt : GoodIn wsX9_pool wsX8_poolAt := goodIn_r _ [11, 12, 13, 23, 24, 25, 26, 27, 28, 29, 30, 31, 32, 33] (by decide +kernel) (by decide +kernel)
set_option maxRecDepth 20000 in
theorem gX9_pool_X8_poolAt : GoodIn wsX9_pool (wsV RX9 206 RX8 yX8_poolAt wsX8_poolAt) := goodIn_app (goodIn_of _ (by decide +kernel)) ggX9_pool_X8_poolAt
theorem dX9_pool_0 : decode cX9_pool 0 = .ok (.aload_n 0, 1) := by decide +kernel
theorem dX9_pool_1 : decode cX9_pool 1 = .ok (.getfield 10, 3) := by decide +kernel
theorem dX9_pool_4 : decode cX9_pool 4 = .ok (.iload_n 1, 1) := by decide +kernel
theorem dX9_pool_5 : decode cX9_pool 5 = .ok (.invokevirtual 206, 3) := by decide +kernel
theorem dX9_pool_8 : decode cX9_pool 8 = .ok (.astore_n 3, 1) := by decide +kernel
theorem dX9_pool_9 : decode cX9_pool 9 = .ok (.aload_n 3, 1) := by decide +kernel
theorem dX9_pool_10 : decode cX9_pool 10 = .ok (.ifnonnull 5, 3) := by decide +kernel
theorem dX9_pool_13 : decode cX9_pool 13 = .ok (.iconst (-1), 1) := by decide +kernel
theorem dX9_pool_14 : decode cX9_pool 14 = .ok (.ireturn, 1) := by decide +kernel
theorem dX9_pool_15 : decode cX9_pool 15 = .ok (.iload_n 2, 1) := by decide +kernel
theorem dX9_pool_16 : decode cX9_pool 16 = .ok (.tableswitch 61 0 4 #[36, 41, 46, 51, 56], 36) := by decide +kernel
theorem dX9_pool_52 : decode cX9_pool 52 = .ok (.aload_n 3, 1) := by decide +kernel
theorem dX9_pool_53 : decode cX9_pool 53 = .ok (.getfield 210, 3) := by decide +kernel
theorem dX9_pool_56 : decode cX9_pool 56 = .ok (.ireturn, 1) := by decide +kernel
theorem dX9_pool_57 : decode cX9_pool 57 = .ok (.aload_n 3, 1) := by decide +kernel
theorem dX9_pool_58 : decode cX9_pool 58 = .ok (.getfield 215, 3) := by decide +kernel
theorem dX9_pool_61 : decode cX9_pool 61 = .ok (.ireturn, 1) := by decide +kernel
theorem dX9_pool_62 : decode cX9_pool 62 = .ok (.aload_n 3, 1) := by decide +kernel
theorem dX9_pool_63 : decode cX9_pool 63 = .ok (.getfield 218, 3) := by decide +kernel
theorem dX9_pool_66 : decode cX9_pool 66 = .ok (.ireturn, 1) := by decide +kernel
theorem dX9_pool_67 : decode cX9_pool 67 = .ok (.aload_n 3, 1) := by decide +kernel
theorem dX9_pool_68 : decode cX9_pool 68 = .ok (.getfield 221, 3) := by decide +kernel
theorem dX9_pool_71 : decode cX9_pool 71 = .ok (.ireturn, 1) := by decide +kernel
theorem dX9_pool_72 : decode cX9_pool 72 = .ok (.aload_n 3, 1) := by decide +kernel
theorem dX9_pool_73 : decode cX9_pool 73 = .ok (.getfield 224, 3) := by decide +kernel
theorem dX9_pool_76 : decode cX9_pool 76 = .ok (.ireturn, 1) := by decide +kernel
theorem dX9_pool_77 : decode cX9_pool 77 = .ok (.bipush (-2), 2) := by decide +kernel
theorem dX9_pool_79 : decode cX9_pool 79 = .ok (.ireturn, 1) := by decide +kernel
set_option maxRecDepth 20000 in
theorem ggX9_passOf_X8_passAt : GoodIn wsX9_passOf wsX8_passAt := goodIn_r _ [9, 10, 11, 19, 20, 21, 22, 23, 24, 25, 26, 27, 28, 29] (by decide +kernel) (by decide +kernel)
set_option maxRecDepth 20000 in
theorem gX9_passOf_X8_passAt : GoodIn wsX9_passOf (wsV RX9 227 RX8 yX8_passAt wsX8_passAt) := goodIn_app (goodIn_of _ (by decide +kernel)) ggX9_passOf_X8_passAt
theorem dX9_passOf_0 : decode cX9_passOf 0 = .ok (.aload_n 0, 1) := by decide +kernel
theorem dX9_passOf_1 : decode cX9_passOf 1 = .ok (.getfield 10, 3) := by decide +kernel
theorem dX9_passOf_4 : decode cX9_passOf 4 = .ok (.iload_n 1, 1) := by decide +kernel
theorem dX9_passOf_5 : decode cX9_passOf 5 = .ok (.invokevirtual 227, 3) := by decide +kernel
theorem dX9_passOf_8 : decode cX9_passOf 8 = .ok (.astore_n 3, 1) := by decide +kernel
theorem dX9_passOf_9 : decode cX9_passOf 9 = .ok (.aload_n 3, 1) := by decide +kernel
theorem dX9_passOf_10 : decode cX9_passOf 10 = .ok (.ifnonnull 5, 3) := by decide +kernel
theorem dX9_passOf_13 : decode cX9_passOf 13 = .ok (.iconst (-1), 1) := by decide +kernel
theorem dX9_passOf_14 : decode cX9_passOf 14 = .ok (.ireturn, 1) := by decide +kernel
theorem dX9_passOf_15 : decode cX9_passOf 15 = .ok (.iload_n 2, 1) := by decide +kernel
theorem dX9_passOf_16 : decode cX9_passOf 16 = .ok (.tableswitch 51 0 2 #[28, 33, 46], 28) := by decide +kernel
theorem dX9_passOf_44 : decode cX9_passOf 44 = .ok (.aload_n 3, 1) := by decide +kernel
theorem dX9_passOf_45 : decode cX9_passOf 45 = .ok (.getfield 231, 3) := by decide +kernel
theorem dX9_passOf_48 : decode cX9_passOf 48 = .ok (.ireturn, 1) := by decide +kernel
theorem dX9_passOf_49 : decode cX9_passOf 49 = .ok (.aload_n 3, 1) := by decide +kernel
theorem dX9_passOf_50 : decode cX9_passOf 50 = .ok (.getfield 236, 3) := by decide +kernel
theorem dX9_passOf_53 : decode cX9_passOf 53 = .ok (.ifCond .eq 7, 3) := by decide +kernel
theorem dX9_passOf_56 : decode cX9_passOf 56 = .ok (.iconst 1, 1) := by decide +kernel
theorem dX9_passOf_57 : decode cX9_passOf 57 = .ok (.goto 4, 3) := by decide +kernel
theorem dX9_passOf_60 : decode cX9_passOf 60 = .ok (.iconst 0, 1) := by decide +kernel
theorem dX9_passOf_61 : decode cX9_passOf 61 = .ok (.ireturn, 1) := by decide +kernel
theorem dX9_passOf_62 : decode cX9_passOf 62 = .ok (.aload_n 3, 1) := by decide +kernel
theorem dX9_passOf_63 : decode cX9_passOf 63 = .ok (.getfield 239, 3) := by decide +kernel
theorem dX9_passOf_66 : decode cX9_passOf 66 = .ok (.ireturn, 1) := by decide +kernel
theorem dX9_passOf_67 : decode cX9_passOf 67 = .ok (.bipush (-2), 2) := by decide +kernel
theorem dX9_passOf_69 : decode cX9_passOf 69 = .ok (.ireturn, 1) := by decide +kernel
set_option maxRecDepth 20000 in
theorem ggX9_event_X0_property : GoodIn wsX9_event wsX0_property := goodIn_r _ [7, 8, 9, 10, 11, 12, 13, 14, 15, 16, 17, 33, 34, 35, 36, 37, 38] (by decide +kernel) (by decide +kernel)
set_option maxRecDepth 20000 in
theorem gX9_event_X0_property : GoodIn wsX9_event (wsV RX9 246 RX0 yX0_property wsX0_property) := goodIn_app (goodIn_of _ (by decide +kernel)) ggX9_event_X0_property
theorem dX9_event_0 : decode cX9_event 0 = .ok (.iload_n 1, 1) := by decide +kernel
theorem dX9_event_1 : decode cX9_event 1 = .ok (.ifCond .lt 12, 3) := by decide +kernel
theorem dX9_event_4 : decode cX9_event 4 = .ok (.iload_n 2, 1) := by decide +kernel
theorem dX9_event_5 : decode cX9_event 5 = .ok (.ifCond .lt 8, 3) := by decide +kernel
theorem dX9_event_8 : decode cX9_event 8 = .ok (.iload_n 2, 1) := by decide +kernel
theorem dX9_event_9 : decode cX9_event 9 = .ok (.iconst 3, 1) := by decide +kernel
theorem dX9_event_10 : decode cX9_event 10 = .ok (.if_icmp .le 6, 3) := by decide +kernel
theorem dX9_event_13 : decode cX9_event 13 = .ok (.bipush (-2), 2) := by decide +kernel
theorem dX9_event_15 : decode cX9_event 15 = .ok (.ireturn, 1) := by decide +kernel
theorem dX9_event_16 : decode cX9_event 16 = .ok (.aload_n 0, 1) := by decide +kernel
theorem dX9_event_17 : decode cX9_event 17 = .ok (.getfield 10, 3) := by decide +kernel
theorem dX9_event_20 : decode cX9_event 20 = .ok (.getfield 242, 3) := by decide +kernel
theorem dX9_event_23 : decode cX9_event 23 = .ok (.iload_n 1, 1) := by decide +kernel
theorem dX9_event_24 : decode cX9_event 24 = .ok (.iload_n 2, 1) := by decide +kernel
theorem dX9_event_25 : decode cX9_event 25 = .ok (.invokevirtual 246, 3) := by decide +kernel
theorem dX9_event_28 : decode cX9_event 28 = .ok (.ireturn, 1) := by decide +kernel
set_option maxRecDepth 20000 in
theorem ggX9_passesIn_X8_personAt : GoodIn wsX9_passesIn wsX8_personAt := goodIn_r _ [8, 9, 10, 233, 234, 235, 236, 237, 238, 239, 240, 241, 242, 243] (by decide +kernel) (by decide +kernel)
set_option maxRecDepth 20000 in
theorem gX9_passesIn_X8_personAt : GoodIn wsX9_passesIn (wsV RX9 175 RX8 yX8_personAt wsX8_personAt) := goodIn_app (goodIn_of _ (by decide +kernel)) ggX9_passesIn_X8_personAt
set_option maxRecDepth 20000 in
theorem ggX9_passesIn_X5_isWaiting : GoodIn wsX9_passesIn wsX5_isWaiting := goodIn_r _ [15, 16, 226, 227, 228, 229, 230, 231, 232] (by decide +kernel) (by decide +kernel)
set_option maxRecDepth 20000 in
theorem gX9_passesIn_X5_isWaiting : GoodIn wsX9_passesIn (wsV RX9 196 RX5 yX5_isWaiting wsX5_isWaiting) := goodIn_app (goodIn_of _ (by decide +kernel)) ggX9_passesIn_X5_isWaiting
set_option maxRecDepth 20000 in
theorem ggX9_passesIn_X8_copyFrom : GoodIn wsX9_passesIn wsX8_copyFrom := goodIn_r _ [20, 21, 22, 9, 10, 23, 24, 25, 26, 27, 28, 29, 30, 31, 32, 33, 34, 35, 36, 37, 38, 39, 40, 41, 42, 43, 44, 45, 46, 47, 48, 49, 50, 51, 52, 53, 54, 55, 56, 57, 58, 59, 60, 61, 62, 63, 64, 65, 66, 67, 14, 68, 69, 70, 16, 71, 72, 73, 74, 75, 76, 77, 78, 79, 80, 81, 82, 83, 84, 85, 86, 87, 88, 89, 90, 91, 92, 93, 94, 95, 96, 97, 98, 99, 100, 101, 102, 103, 104, 233, 234, 235, 236, 237, 238, 239, 240, 241, 242, 243, 244, 245, 246, 247, 248, 249, 250, 251, 252, 253, 254, 255, 256, 257, 258, 259, 260, 226, 227, 228, 229, 230, 231, 232, 261, 262, 263, 264, 265, 266, 267, 268, 269, 270, 271, 272, 273, 274] (by decide +kernel) (by decide +kernel)
set_option maxRecDepth 20000 in
theorem gX9_passesIn_X8_copyFrom : GoodIn wsX9_passesIn (wsV RX9 125 RX8 yX8_copyFrom wsX8_copyFrom) := goodIn_app (goodIn_of _ (by decide +kernel)) ggX9_passesIn_X8_copyFrom
set_option maxRecDepth 20000 in
theorem ggX9_passesIn_X8_ticksUntilPassed : GoodIn wsX9_passesIn wsX8_ticksUntilPassed := goodIn_r _ [108, 109, 110, 5, 6, 7, 8, 9, 10, 111, 112, 113, 114, 21, 22, 28, 115, 116, 117, 118, 119, 120, 121, 122, 123, 124, 125, 126, 127, 128, 129, 130, 131, 132, 27, 133, 134, 135, 136, 137, 138, 139, 140, 141, 142, 143, 144, 145, 146, 53, 147, 55, 56, 148, 149, 150, 151, 61, 62, 63, 64, 152, 153, 154, 155, 156, 157, 158, 159, 160, 161, 29, 162, 163, 164, 165, 25, 26, 166, 167, 168, 169, 23, 24, 170, 171, 172, 14, 173, 16, 71, 72, 174, 175, 176, 96, 177, 104, 98, 100, 101, 102, 103, 178, 58, 59, 60, 179, 180, 181, 182, 183, 184, 185, 186, 187, 188, 189, 190, 33, 191, 41, 42, 192, 193, 194, 195, 196, 197, 198, 199, 200, 201, 202, 203, 204, 205, 206, 207, 208, 209, 210, 211, 212, 213, 214, 215, 216, 217, 218, 219, 220, 221, 226, 227, 228, 229, 230, 231, 232, 233, 234, 235, 236, 237, 238, 239, 240, 241, 242, 243, 244, 245, 246, 247, 248, 249, 250, 251, 252, 253, 254, 255, 256, 257, 258, 259, 260, 266, 267, 268, 261, 262, 263, 264, 265, 269, 270, 271, 272, 273, 274] (by decide +kernel) (by decide +kernel)
set_option maxRecDepth 20000 in
theorem gX9_passesIn_X8_ticksUntilPassed : GoodIn wsX9_passesIn (wsV RX9 251 RX8 yX8_ticksUntilPassed wsX8_ticksUntilPassed) := goodIn_app (goodIn_of _ (by decide +kernel)) ggX9_passesIn_X8_ticksUntilPassed
theorem dX9_passesIn_0 : decode cX9_passesIn 0 = .ok (.aload_n 0, 1) := by decide +kernel
theorem dX9_passesIn_1 : decode cX9_passesIn 1 = .ok (.getfield 10, 3) := by decide +kernel
theorem dX9_passesIn_4 : decode cX9_passesIn 4 = .ok (.iload_n 1, 1) := by decide +kernel
theorem dX9_passesIn_5 : decode cX9_passesIn 5 = .ok (.invokevirtual 175, 3) := by decide +kernel
theorem dX9_passesIn_8 : decode cX9_passesIn 8 = .ok (.astore_n 2, 1) := by decide +kernel
theorem dX9_passesIn_9 : decode cX9_passesIn 9 = .ok (.aload_n 2, 1) := by decide +kernel
theorem dX9_passesIn_10 : decode cX9_passesIn 10 = .ok (.ifnonnull 5, 3) := by decide +kernel
theorem dX9_passesIn_13 : decode cX9_passesIn 13 = .ok (.iconst (-1), 1) := by decide +kernel
theorem dX9_passesIn_14 : decode cX9_passesIn 14 = .ok (.ireturn, 1) := by decide +kernel
theorem dX9_passesIn_15 : decode cX9_passesIn 15 = .ok (.aload_n 2, 1) := by decide +kernel
theorem dX9_passesIn_16 : decode cX9_passesIn 16 = .ok (.invokevirtual 196, 3) := by decide +kernel
theorem dX9_passesIn_19 : decode cX9_passesIn 19 = .ok (.ifCond .ne 14, 3) := by decide +kernel
theorem dX9_passesIn_22 : decode cX9_passesIn 22 = .ok (.aload_n 2, 1) := by decide +kernel
theorem dX9_passesIn_23 : decode cX9_passesIn 23 = .ok (.getfield 179, 3) := by decide +kernel
theorem dX9_passesIn_26 : decode cX9_passesIn 26 = .ok (.iconst 2, 1) := by decide +kernel
theorem dX9_passesIn_27 : decode cX9_passesIn 27 = .ok (.if_icmp .eq 6, 3) := by decide +kernel
theorem dX9_passesIn_30 : decode cX9_passesIn 30 = .ok (.bipush (-4), 2) := by decide +kernel
theorem dX9_passesIn_32 : decode cX9_passesIn 32 = .ok (.ireturn, 1) := by decide +kernel
theorem dX9_passesIn_33 : decode cX9_passesIn 33 = .ok (.aload_n 0, 1) := by decide +kernel
theorem dX9_passesIn_34 : decode cX9_passesIn 34 = .ok (.getfield 16, 3) := by decide +kernel
theorem dX9_passesIn_37 : decode cX9_passesIn 37 = .ok (.aload_n 0, 1) := by decide +kernel
theorem dX9_passesIn_38 : decode cX9_passesIn 38 = .ok (.getfield 10, 3) := by decide +kernel
theorem dX9_passesIn_41 : decode cX9_passesIn 41 = .ok (.invokevirtual 125, 3) := by decide +kernel
theorem dX9_passesIn_44 : decode cX9_passesIn 44 = .ok (.aload_n 0, 1) := by decide +kernel
theorem dX9_passesIn_45 : decode cX9_passesIn 45 = .ok (.getfield 16, 3) := by decide +kernel
theorem dX9_passesIn_48 : decode cX9_passesIn 48 = .ok (.iload_n 1, 1) := by decide +kernel
theorem dX9_passesIn_49 : decode cX9_passesIn 49 = .ok (.invokevirtual 251, 3) := by decide +kernel
theorem dX9_passesIn_52 : decode cX9_passesIn 52 = .ok (.ireturn, 1) := by decide +kernel
set_option maxRecDepth 20000 in
theorem ggX9_count_X8_peopleWhoAre : GoodIn wsX9_count wsX8_peopleWhoAre := goodIn_r _ [14, 15, 16, 17, 48, 49, 50, 51, 52, 53, 54, 55, 56, 57, 58, 69, 70, 71, 72, 73, 74, 75] (by decide +kernel) (by decide +kernel)
set_option maxRecDepth 20000 in
theorem gX9_count_X8_peopleWhoAre : GoodIn wsX9_count (wsV RX9 257 RX8 yX8_peopleWhoAre wsX8_peopleWhoAre) := goodIn_app (goodIn_of _ (by decide +kernel)) ggX9_count_X8_peopleWhoAre
set_option maxRecDepth 20000 in
theorem ggX9_count_X8_allRefusals : GoodIn wsX9_count wsX8_allRefusals := goodIn_r _ [21, 22, 23, 24, 48, 49, 50, 51, 52, 53, 54, 55, 56, 57, 58, 76, 77, 78, 79, 80, 81, 82, 83, 84, 85, 86, 87, 88, 89, 90] (by decide +kernel) (by decide +kernel)
set_option maxRecDepth 20000 in
theorem gX9_count_X8_allRefusals : GoodIn wsX9_count (wsV RX9 260 RX8 yX8_allRefusals wsX8_allRefusals) := goodIn_app (goodIn_of _ (by decide +kernel)) ggX9_count_X8_allRefusals
set_option maxRecDepth 20000 in
theorem ggX9_count_X8_allFares : GoodIn wsX9_count wsX8_allFares := goodIn_r _ [28, 29, 30, 31, 48, 49, 50, 51, 52, 53, 54, 55, 56, 57, 58, 91, 92, 93, 94, 95] (by decide +kernel) (by decide +kernel)
set_option maxRecDepth 20000 in
theorem gX9_count_X8_allFares : GoodIn wsX9_count (wsV RX9 263 RX8 yX8_allFares wsX8_allFares) := goodIn_app (goodIn_of _ (by decide +kernel)) ggX9_count_X8_allFares
set_option maxRecDepth 20000 in
theorem ggX9_count_X8_busiestGate : GoodIn wsX9_count wsX8_busiestGate := goodIn_r _ [35, 22, 23, 36, 37, 38, 39, 40, 41, 42, 43, 48, 49, 50, 51, 52, 53, 54, 55, 56, 57, 58, 76, 77, 78, 79, 80, 81, 82, 83, 84, 85, 86, 87, 88, 89, 90, 96, 97] (by decide +kernel) (by decide +kernel)
set_option maxRecDepth 20000 in
theorem gX9_count_X8_busiestGate : GoodIn wsX9_count (wsV RX9 269 RX8 yX8_busiestGate wsX8_busiestGate) := goodIn_app (goodIn_of _ (by decide +kernel)) ggX9_count_X8_busiestGate
theorem dX9_count_0 : decode cX9_count 0 = .ok (.iload_n 1, 1) := by decide +kernel
theorem dX9_count_1 : decode cX9_count 1 = .ok (.tableswitch 184 0 12 #[67, 75, 83, 91, 109, 118, 127, 136, 144, 152, 160, 168, 176], 67) := by decide +kernel
theorem dX9_count_68 : decode cX9_count 68 = .ok (.aload_n 0, 1) := by decide +kernel
theorem dX9_count_69 : decode cX9_count 69 = .ok (.getfield 10, 3) := by decide +kernel
theorem dX9_count_72 : decode cX9_count 72 = .ok (.getfield 200, 3) := by decide +kernel
theorem dX9_count_75 : decode cX9_count 75 = .ok (.ireturn, 1) := by decide +kernel
theorem dX9_count_76 : decode cX9_count 76 = .ok (.aload_n 0, 1) := by decide +kernel
theorem dX9_count_77 : decode cX9_count 77 = .ok (.getfield 10, 3) := by decide +kernel
theorem dX9_count_80 : decode cX9_count 80 = .ok (.getfield 102, 3) := by decide +kernel
theorem dX9_count_83 : decode cX9_count 83 = .ok (.ireturn, 1) := by decide +kernel
theorem dX9_count_84 : decode cX9_count 84 = .ok (.aload_n 0, 1) := by decide +kernel
theorem dX9_count_85 : decode cX9_count 85 = .ok (.getfield 10, 3) := by decide +kernel
theorem dX9_count_88 : decode cX9_count 88 = .ok (.getfield 254, 3) := by decide +kernel
theorem dX9_count_91 : decode cX9_count 91 = .ok (.ireturn, 1) := by decide +kernel
theorem dX9_count_92 : decode cX9_count 92 = .ok (.aload_n 0, 1) := by decide +kernel
theorem dX9_count_93 : decode cX9_count 93 = .ok (.getfield 10, 3) := by decide +kernel
theorem dX9_count_96 : decode cX9_count 96 = .ok (.iconst 3, 1) := by decide +kernel
theorem dX9_count_97 : decode cX9_count 97 = .ok (.invokevirtual 257, 3) := by decide +kernel
theorem dX9_count_100 : decode cX9_count 100 = .ok (.aload_n 0, 1) := by decide +kernel
theorem dX9_count_101 : decode cX9_count 101 = .ok (.getfield 10, 3) := by decide +kernel
theorem dX9_count_104 : decode cX9_count 104 = .ok (.iconst 4, 1) := by decide +kernel
theorem dX9_count_105 : decode cX9_count 105 = .ok (.invokevirtual 257, 3) := by decide +kernel
theorem dX9_count_108 : decode cX9_count 108 = .ok (.iadd, 1) := by decide +kernel
theorem dX9_count_109 : decode cX9_count 109 = .ok (.ireturn, 1) := by decide +kernel
theorem dX9_count_110 : decode cX9_count 110 = .ok (.aload_n 0, 1) := by decide +kernel
theorem dX9_count_111 : decode cX9_count 111 = .ok (.getfield 10, 3) := by decide +kernel
theorem dX9_count_114 : decode cX9_count 114 = .ok (.iconst 1, 1) := by decide +kernel
theorem dX9_count_115 : decode cX9_count 115 = .ok (.invokevirtual 257, 3) := by decide +kernel
theorem dX9_count_118 : decode cX9_count 118 = .ok (.ireturn, 1) := by decide +kernel
theorem dX9_count_119 : decode cX9_count 119 = .ok (.aload_n 0, 1) := by decide +kernel
theorem dX9_count_120 : decode cX9_count 120 = .ok (.getfield 10, 3) := by decide +kernel
theorem dX9_count_123 : decode cX9_count 123 = .ok (.iconst 2, 1) := by decide +kernel
theorem dX9_count_124 : decode cX9_count 124 = .ok (.invokevirtual 257, 3) := by decide +kernel
theorem dX9_count_127 : decode cX9_count 127 = .ok (.ireturn, 1) := by decide +kernel
theorem dX9_count_128 : decode cX9_count 128 = .ok (.aload_n 0, 1) := by decide +kernel
theorem dX9_count_129 : decode cX9_count 129 = .ok (.getfield 10, 3) := by decide +kernel
theorem dX9_count_132 : decode cX9_count 132 = .ok (.iconst 5, 1) := by decide +kernel
theorem dX9_count_133 : decode cX9_count 133 = .ok (.invokevirtual 257, 3) := by decide +kernel
theorem dX9_count_136 : decode cX9_count 136 = .ok (.ireturn, 1) := by decide +kernel
theorem dX9_count_137 : decode cX9_count 137 = .ok (.aload_n 0, 1) := by decide +kernel
theorem dX9_count_138 : decode cX9_count 138 = .ok (.getfield 10, 3) := by decide +kernel
theorem dX9_count_141 : decode cX9_count 141 = .ok (.invokevirtual 260, 3) := by decide +kernel
theorem dX9_count_144 : decode cX9_count 144 = .ok (.ireturn, 1) := by decide +kernel
theorem dX9_count_145 : decode cX9_count 145 = .ok (.aload_n 0, 1) := by decide +kernel
theorem dX9_count_146 : decode cX9_count 146 = .ok (.getfield 10, 3) := by decide +kernel
theorem dX9_count_149 : decode cX9_count 149 = .ok (.invokevirtual 263, 3) := by decide +kernel
theorem dX9_count_152 : decode cX9_count 152 = .ok (.ireturn, 1) := by decide +kernel
theorem dX9_count_153 : decode cX9_count 153 = .ok (.aload_n 0, 1) := by decide +kernel
theorem dX9_count_154 : decode cX9_count 154 = .ok (.getfield 10, 3) := by decide +kernel
theorem dX9_count_157 : decode cX9_count 157 = .ok (.getfield 266, 3) := by decide +kernel
theorem dX9_count_160 : decode cX9_count 160 = .ok (.ireturn, 1) := by decide +kernel
theorem dX9_count_161 : decode cX9_count 161 = .ok (.aload_n 0, 1) := by decide +kernel
theorem dX9_count_162 : decode cX9_count 162 = .ok (.getfield 10, 3) := by decide +kernel
theorem dX9_count_165 : decode cX9_count 165 = .ok (.invokevirtual 269, 3) := by decide +kernel
theorem dX9_count_168 : decode cX9_count 168 = .ok (.ireturn, 1) := by decide +kernel
theorem dX9_count_169 : decode cX9_count 169 = .ok (.aload_n 0, 1) := by decide +kernel
theorem dX9_count_170 : decode cX9_count 170 = .ok (.getfield 22, 3) := by decide +kernel
theorem dX9_count_173 : decode cX9_count 173 = .ok (.getfield 118, 3) := by decide +kernel
theorem dX9_count_176 : decode cX9_count 176 = .ok (.ireturn, 1) := by decide +kernel
theorem dX9_count_177 : decode cX9_count 177 = .ok (.aload_n 0, 1) := by decide +kernel
theorem dX9_count_178 : decode cX9_count 178 = .ok (.getfield 29, 3) := by decide +kernel
theorem dX9_count_181 : decode cX9_count 181 = .ok (.getfield 272, 3) := by decide +kernel
theorem dX9_count_184 : decode cX9_count 184 = .ok (.ireturn, 1) := by decide +kernel
theorem dX9_count_185 : decode cX9_count 185 = .ok (.bipush (-2), 2) := by decide +kernel
theorem dX9_count_187 : decode cX9_count 187 = .ok (.ireturn, 1) := by decide +kernel
set_option maxRecDepth 20000 in
theorem ggX9_recorded_X2_keep : GoodIn wsX9_recorded wsX2_keep := goodIn_r _ [6, 7, 8, 9, 10, 11, 5, 12, 13, 14, 15, 16, 21, 22, 23] (by decide +kernel) (by decide +kernel)
set_option maxRecDepth 20000 in
theorem gX9_recorded_X2_keep : GoodIn wsX9_recorded (wsV RX9 85 RX2 yX2_keep wsX2_keep) := goodIn_app (goodIn_of _ (by decide +kernel)) ggX9_recorded_X2_keep
theorem dX9_recorded_0 : decode cX9_recorded 0 = .ok (.iload_n 1, 1) := by decide +kernel
theorem dX9_recorded_1 : decode cX9_recorded 1 = .ok (.ifCond .lt 10, 3) := by decide +kernel
theorem dX9_recorded_4 : decode cX9_recorded 4 = .ok (.aload_n 0, 1) := by decide +kernel
theorem dX9_recorded_5 : decode cX9_recorded 5 = .ok (.getfield 22, 3) := by decide +kernel
theorem dX9_recorded_8 : decode cX9_recorded 8 = .ok (.invokevirtual 85, 3) := by decide +kernel
theorem dX9_recorded_11 : decode cX9_recorded 11 = .ok (.iload_n 1, 1) := by decide +kernel
theorem dX9_recorded_12 : decode cX9_recorded 12 = .ok (.ireturn, 1) := by decide +kernel
set_option maxRecDepth 20000 in
theorem ggX9_carryOut_X8_comeIn : GoodIn wsX9_carryOut wsX8_comeIn := goodIn_r _ [11, 12, 13, 14, 15, 16, 17, 18, 10, 19, 20, 21, 22, 23, 24, 25, 26, 27, 28, 29, 30, 31, 32, 33, 34, 35, 36, 37, 38, 39, 40, 41, 42, 43, 44, 45, 46, 47, 48, 49, 50, 203, 204, 205, 206, 207, 208, 209, 210, 211, 212, 213, 214, 215, 216, 217, 218, 219, 220, 221, 222, 223, 224, 225, 226, 227, 228, 229, 230, 231, 232, 233, 234, 235, 236, 237] (by decide +kernel) (by decide +kernel)
set_option maxRecDepth 20000 in
theorem gX9_carryOut_X8_comeIn : GoodIn wsX9_carryOut (wsV RX9 65 RX8 yX8_comeIn wsX8_comeIn) := goodIn_app (goodIn_of _ (by decide +kernel)) ggX9_carryOut_X8_comeIn
set_option maxRecDepth 20000 in
theorem ggX9_carryOut_X8_goOut : GoodIn wsX9_carryOut wsX8_goOut := goodIn_r _ [54, 55, 14, 56, 57, 16, 17, 18, 10, 19, 20, 21, 58, 59, 60, 61, 12, 13, 36, 37, 38, 31, 39, 40, 41, 42, 43, 44, 45, 46, 47, 48, 49, 50, 229, 230, 231, 232, 233, 234, 235, 203, 204, 205, 206, 207, 208, 209, 210, 211, 212, 213, 214, 215, 216, 217, 218, 219, 220, 221, 222, 223, 224, 225, 226, 227, 228, 236, 237] (by decide +kernel) (by decide +kernel)
set_option maxRecDepth 20000 in
theorem gX9_carryOut_X8_goOut : GoodIn wsX9_carryOut (wsV RX9 69 RX8 yX8_goOut wsX8_goOut) := goodIn_app (goodIn_of _ (by decide +kernel)) ggX9_carryOut_X8_goOut
set_option maxRecDepth 20000 in
theorem ggX9_carryOut_X8_letTicksGo : GoodIn wsX9_carryOut wsX8_letTicksGo := goodIn_r _ [65, 20, 21, 14, 66, 67, 68, 69, 70, 71, 10, 72, 73, 74, 75, 76, 77, 78, 79, 80, 81, 82, 83, 84, 85, 55, 86, 87, 88, 89, 90, 91, 92, 15, 56, 93, 94, 95, 96, 47, 97, 49, 50, 58, 59, 60, 61, 12, 13, 98, 99, 100, 101, 102, 103, 104, 105, 106, 107, 108, 109, 110, 111, 112, 113, 114, 115, 116, 22, 23, 24, 25, 26, 27, 117, 118, 119, 120, 121, 122, 123, 124, 125, 31, 126, 41, 40, 35, 127, 128, 129, 130, 131, 132, 133, 134, 135, 136, 137, 138, 139, 140, 141, 142, 143, 144, 145, 146, 147, 148, 149, 150, 151, 152, 153, 154, 155, 156, 157, 158, 159, 160, 161, 162, 163, 164, 165, 166, 167, 168, 169, 170, 171, 172, 173, 174, 175, 176, 177, 178, 179, 180, 181, 182, 183, 184, 185, 186, 187, 203, 204, 205, 206, 207, 208, 209, 210, 211, 212, 213, 214, 215, 216, 217, 218, 219, 220, 221, 222, 223, 224, 225, 226, 227, 228, 229, 230, 231, 232, 233, 234, 235, 236, 237, 238, 239, 240, 241, 242, 243, 244, 245, 246, 247, 248, 249, 250, 251] (by decide +kernel) (by decide +kernel)
set_option maxRecDepth 20000 in
theorem gX9_carryOut_X8_letTicksGo : GoodIn wsX9_carryOut (wsV RX9 91 RX8 yX8_letTicksGo wsX8_letTicksGo) := goodIn_app (goodIn_of _ (by decide +kernel)) ggX9_carryOut_X8_letTicksGo
set_option maxRecDepth 20000 in
theorem ggX9_carryOut_X8_tellPinch : GoodIn wsX9_carryOut wsX8_tellPinch := goodIn_r _ [191, 73, 162, 16, 17, 18, 10, 19, 20, 21, 214, 215, 216, 217, 218, 219, 220, 221, 222, 223, 224, 225, 226, 227, 228, 203, 204, 205, 206, 207, 208, 209, 210, 211, 212, 213] (by decide +kernel) (by decide +kernel)
set_option maxRecDepth 20000 in
theorem gX9_carryOut_X8_tellPinch : GoodIn wsX9_carryOut (wsV RX9 75 RX8 yX8_tellPinch wsX8_tellPinch) := goodIn_app (goodIn_of _ (by decide +kernel)) ggX9_carryOut_X8_tellPinch
theorem dX9_carryOut_0 : decode cX9_carryOut 0 = .ok (.aload_n 0, 1) := by decide +kernel
theorem dX9_carryOut_1 : decode cX9_carryOut 1 = .ok (.getfield 29, 3) := by decide +kernel
theorem dX9_carryOut_4 : decode cX9_carryOut 4 = .ok (.getfield 273, 3) := by decide +kernel
theorem dX9_carryOut_7 : decode cX9_carryOut 7 = .ok (.lookupswitch 99 #[(105, 33), (111, 62), (116, 84)], 33) := by decide +kernel
theorem dX9_carryOut_40 : decode cX9_carryOut 40 = .ok (.aload_n 0, 1) := by decide +kernel
theorem dX9_carryOut_41 : decode cX9_carryOut 41 = .ok (.getfield 10, 3) := by decide +kernel
theorem dX9_carryOut_44 : decode cX9_carryOut 44 = .ok (.aload_n 0, 1) := by decide +kernel
theorem dX9_carryOut_45 : decode cX9_carryOut 45 = .ok (.getfield 29, 3) := by decide +kernel
theorem dX9_carryOut_48 : decode cX9_carryOut 48 = .ok (.getfield 276, 3) := by decide +kernel
theorem dX9_carryOut_51 : decode cX9_carryOut 51 = .ok (.aload_n 0, 1) := by decide +kernel
theorem dX9_carryOut_52 : decode cX9_carryOut 52 = .ok (.getfield 29, 3) := by decide +kernel
theorem dX9_carryOut_55 : decode cX9_carryOut 55 = .ok (.getfield 277, 3) := by decide +kernel
theorem dX9_carryOut_58 : decode cX9_carryOut 58 = .ok (.aload_n 0, 1) := by decide +kernel
theorem dX9_carryOut_59 : decode cX9_carryOut 59 = .ok (.getfield 29, 3) := by decide +kernel
theorem dX9_carryOut_62 : decode cX9_carryOut 62 = .ok (.getfield 280, 3) := by decide +kernel
theorem dX9_carryOut_65 : decode cX9_carryOut 65 = .ok (.invokevirtual 65, 3) := by decide +kernel
theorem dX9_carryOut_68 : decode cX9_carryOut 68 = .ok (.ireturn, 1) := by decide +kernel
theorem dX9_carryOut_69 : decode cX9_carryOut 69 = .ok (.aload_n 0, 1) := by decide +kernel
theorem dX9_carryOut_70 : decode cX9_carryOut 70 = .ok (.getfield 10, 3) := by decide +kernel
theorem dX9_carryOut_73 : decode cX9_carryOut 73 = .ok (.aload_n 0, 1) := by decide +kernel
theorem dX9_carryOut_74 : decode cX9_carryOut 74 = .ok (.getfield 29, 3) := by decide +kernel
theorem dX9_carryOut_77 : decode cX9_carryOut 77 = .ok (.getfield 276, 3) := by decide +kernel
theorem dX9_carryOut_80 : decode cX9_carryOut 80 = .ok (.aload_n 0, 1) := by decide +kernel
theorem dX9_carryOut_81 : decode cX9_carryOut 81 = .ok (.getfield 29, 3) := by decide +kernel
theorem dX9_carryOut_84 : decode cX9_carryOut 84 = .ok (.getfield 277, 3) := by decide +kernel
theorem dX9_carryOut_87 : decode cX9_carryOut 87 = .ok (.invokevirtual 69, 3) := by decide +kernel
theorem dX9_carryOut_90 : decode cX9_carryOut 90 = .ok (.ireturn, 1) := by decide +kernel
theorem dX9_carryOut_91 : decode cX9_carryOut 91 = .ok (.aload_n 0, 1) := by decide +kernel
theorem dX9_carryOut_92 : decode cX9_carryOut 92 = .ok (.getfield 10, 3) := by decide +kernel
theorem dX9_carryOut_95 : decode cX9_carryOut 95 = .ok (.aload_n 0, 1) := by decide +kernel
theorem dX9_carryOut_96 : decode cX9_carryOut 96 = .ok (.getfield 29, 3) := by decide +kernel
theorem dX9_carryOut_99 : decode cX9_carryOut 99 = .ok (.getfield 277, 3) := by decide +kernel
theorem dX9_carryOut_102 : decode cX9_carryOut 102 = .ok (.invokevirtual 91, 3) := by decide +kernel
theorem dX9_carryOut_105 : decode cX9_carryOut 105 = .ok (.ireturn, 1) := by decide +kernel
theorem dX9_carryOut_106 : decode cX9_carryOut 106 = .ok (.aload_n 0, 1) := by decide +kernel
theorem dX9_carryOut_107 : decode cX9_carryOut 107 = .ok (.getfield 10, 3) := by decide +kernel
theorem dX9_carryOut_110 : decode cX9_carryOut 110 = .ok (.aload_n 0, 1) := by decide +kernel
theorem dX9_carryOut_111 : decode cX9_carryOut 111 = .ok (.getfield 29, 3) := by decide +kernel
theorem dX9_carryOut_114 : decode cX9_carryOut 114 = .ok (.getfield 276, 3) := by decide +kernel
theorem dX9_carryOut_117 : decode cX9_carryOut 117 = .ok (.invokevirtual 75, 3) := by decide +kernel
theorem dX9_carryOut_120 : decode cX9_carryOut 120 = .ok (.ireturn, 1) := by decide +kernel
theorem dX9_isError_0 : decode cX9_isError 0 = .ok (.iload_n 0, 1) := by decide +kernel
theorem dX9_isError_1 : decode cX9_isError 1 = .ok (.ifCond .ge 13, 3) := by decide +kernel
theorem dX9_isError_4 : decode cX9_isError 4 = .ok (.iload_n 0, 1) := by decide +kernel
theorem dX9_isError_5 : decode cX9_isError 5 = .ok (.bipush (-5), 2) := by decide +kernel
theorem dX9_isError_7 : decode cX9_isError 7 = .ok (.if_icmp .eq 7, 3) := by decide +kernel
theorem dX9_isError_10 : decode cX9_isError 10 = .ok (.iconst 1, 1) := by decide +kernel
theorem dX9_isError_11 : decode cX9_isError 11 = .ok (.goto 4, 3) := by decide +kernel
theorem dX9_isError_14 : decode cX9_isError 14 = .ok (.iconst 0, 1) := by decide +kernel
theorem dX9_isError_15 : decode cX9_isError 15 = .ok (.ireturn, 1) := by decide +kernel
theorem dX9_isBetween_0 : decode cX9_isBetween 0 = .ok (.iload_n 0, 1) := by decide +kernel
theorem dX9_isBetween_1 : decode cX9_isBetween 1 = .ok (.iload_n 1, 1) := by decide +kernel
theorem dX9_isBetween_2 : decode cX9_isBetween 2 = .ok (.if_icmp .gt 12, 3) := by decide +kernel
theorem dX9_isBetween_5 : decode cX9_isBetween 5 = .ok (.iload_n 1, 1) := by decide +kernel
theorem dX9_isBetween_6 : decode cX9_isBetween 6 = .ok (.iload_n 2, 1) := by decide +kernel
theorem dX9_isBetween_7 : decode cX9_isBetween 7 = .ok (.if_icmp .gt 7, 3) := by decide +kernel
theorem dX9_isBetween_10 : decode cX9_isBetween 10 = .ok (.iconst 1, 1) := by decide +kernel
theorem dX9_isBetween_11 : decode cX9_isBetween 11 = .ok (.goto 4, 3) := by decide +kernel
theorem dX9_isBetween_14 : decode cX9_isBetween 14 = .ok (.iconst 0, 1) := by decide +kernel
theorem dX9_isBetween_15 : decode cX9_isBetween 15 = .ok (.ireturn, 1) := by decide +kernel
theorem dX10_init_0 : decode cX10_init 0 = .ok (.aload_n 0, 1) := by decide +kernel
theorem dX10_init_1 : decode cX10_init 1 = .ok (.invokespecial 1, 3) := by decide +kernel
theorem dX10_init_4 : decode cX10_init 4 = .ok (.aload_n 0, 1) := by decide +kernel
theorem dX10_init_5 : decode cX10_init 5 = .ok (.sipush 516, 3) := by decide +kernel
theorem dX10_init_8 : decode cX10_init 8 = .ok (.newarray .int, 2) := by decide +kernel
theorem dX10_init_10 : decode cX10_init 10 = .ok (.putfield 7, 3) := by decide +kernel
theorem dX10_init_13 : decode cX10_init 13 = .ok (.aload_n 0, 1) := by decide +kernel
theorem dX10_init_14 : decode cX10_init 14 = .ok (.sipush 516, 3) := by decide +kernel
theorem dX10_init_17 : decode cX10_init 17 = .ok (.newarray .int, 2) := by decide +kernel
theorem dX10_init_19 : decode cX10_init 19 = .ok (.putfield 13, 3) := by decide +kernel
theorem dX10_init_22 : decode cX10_init 22 = .ok (.aload_n 0, 1) := by decide +kernel
theorem dX10_init_23 : decode cX10_init 23 = .ok (.sipush 2064, 3) := by decide +kernel
theorem dX10_init_26 : decode cX10_init 26 = .ok (.newarray .int, 2) := by decide +kernel
theorem dX10_init_28 : decode cX10_init 28 = .ok (.putfield 16, 3) := by decide +kernel
theorem dX10_init_31 : decode cX10_init 31 = .ok (.aload_n 0, 1) := by decide +kernel
theorem dX10_init_32 : decode cX10_init 32 = .ok (.bipush 50, 2) := by decide +kernel
theorem dX10_init_34 : decode cX10_init 34 = .ok (.newarray .char, 2) := by decide +kernel
theorem dX10_init_36 : decode cX10_init 36 = .ok (.putfield 19, 3) := by decide +kernel
theorem dX10_init_39 : decode cX10_init 39 = .ok (.aload_n 0, 1) := by decide +kernel
theorem dX10_init_40 : decode cX10_init 40 = .ok (.sipush 200, 3) := by decide +kernel
theorem dX10_init_43 : decode cX10_init 43 = .ok (.newarray .int, 2) := by decide +kernel
theorem dX10_init_45 : decode cX10_init 45 = .ok (.putfield 23, 3) := by decide +kernel
theorem dX10_init_48 : decode cX10_init 48 = .ok (.aload_n 0, 1) := by decide +kernel
theorem dX10_init_49 : decode cX10_init 49 = .ok (.getfield 7, 3) := by decide +kernel
theorem dX10_init_52 : decode cX10_init 52 = .ok (.bipush 6, 2) := by decide +kernel
theorem dX10_init_54 : decode cX10_init 54 = .ok (.bipush 10, 2) := by decide +kernel
theorem dX10_init_56 : decode cX10_init 56 = .ok (.iastore, 1) := by decide +kernel
theorem dX10_init_57 : decode cX10_init 57 = .ok (.return_, 1) := by decide +kernel
theorem dX10_in_0 : decode cX10_in 0 = .ok (.iload_n 0, 1) := by decide +kernel
theorem dX10_in_1 : decode cX10_in 1 = .ok (.iload_n 1, 1) := by decide +kernel
theorem dX10_in_2 : decode cX10_in 2 = .ok (.if_icmp .lt 12, 3) := by decide +kernel
theorem dX10_in_5 : decode cX10_in 5 = .ok (.iload_n 0, 1) := by decide +kernel
theorem dX10_in_6 : decode cX10_in 6 = .ok (.iload_n 2, 1) := by decide +kernel
theorem dX10_in_7 : decode cX10_in 7 = .ok (.if_icmp .gt 7, 3) := by decide +kernel
theorem dX10_in_10 : decode cX10_in 10 = .ok (.iconst 1, 1) := by decide +kernel
theorem dX10_in_11 : decode cX10_in 11 = .ok (.goto 4, 3) := by decide +kernel
theorem dX10_in_14 : decode cX10_in 14 = .ok (.iconst 0, 1) := by decide +kernel
theorem dX10_in_15 : decode cX10_in 15 = .ok (.ireturn, 1) := by decide +kernel
theorem dX10_begin_0 : decode cX10_begin 0 = .ok (.iconst 0, 1) := by decide +kernel
theorem dX10_begin_1 : decode cX10_begin 1 = .ok (.istore_n 1, 1) := by decide +kernel
theorem dX10_begin_2 : decode cX10_begin 2 = .ok (.iload_n 1, 1) := by decide +kernel
theorem dX10_begin_3 : decode cX10_begin 3 = .ok (.sipush 516, 3) := by decide +kernel
theorem dX10_begin_6 : decode cX10_begin 6 = .ok (.if_icmp .ge 21, 3) := by decide +kernel
theorem dX10_begin_9 : decode cX10_begin 9 = .ok (.aload_n 0, 1) := by decide +kernel
theorem dX10_begin_10 : decode cX10_begin 10 = .ok (.getfield 13, 3) := by decide +kernel
theorem dX10_begin_13 : decode cX10_begin 13 = .ok (.iload_n 1, 1) := by decide +kernel
theorem dX10_begin_14 : decode cX10_begin 14 = .ok (.aload_n 0, 1) := by decide +kernel
theorem dX10_begin_15 : decode cX10_begin 15 = .ok (.getfield 7, 3) := by decide +kernel
theorem dX10_begin_18 : decode cX10_begin 18 = .ok (.iload_n 1, 1) := by decide +kernel
theorem dX10_begin_19 : decode cX10_begin 19 = .ok (.iaload, 1) := by decide +kernel
theorem dX10_begin_20 : decode cX10_begin 20 = .ok (.iastore, 1) := by decide +kernel
theorem dX10_begin_21 : decode cX10_begin 21 = .ok (.iinc 1 1, 3) := by decide +kernel
theorem dX10_begin_24 : decode cX10_begin 24 = .ok (.goto (-22), 3) := by decide +kernel
theorem dX10_begin_27 : decode cX10_begin 27 = .ok (.return_, 1) := by decide +kernel
theorem dX10_goBack_0 : decode cX10_goBack 0 = .ok (.iconst 0, 1) := by decide +kernel
theorem dX10_goBack_1 : decode cX10_goBack 1 = .ok (.istore_n 1, 1) := by decide +kernel
theorem dX10_goBack_2 : decode cX10_goBack 2 = .ok (.iload_n 1, 1) := by decide +kernel
theorem dX10_goBack_3 : decode cX10_goBack 3 = .ok (.sipush 516, 3) := by decide +kernel
theorem dX10_goBack_6 : decode cX10_goBack 6 = .ok (.if_icmp .ge 21, 3) := by decide +kernel
theorem dX10_goBack_9 : decode cX10_goBack 9 = .ok (.aload_n 0, 1) := by decide +kernel
theorem dX10_goBack_10 : decode cX10_goBack 10 = .ok (.getfield 7, 3) := by decide +kernel
theorem dX10_goBack_13 : decode cX10_goBack 13 = .ok (.iload_n 1, 1) := by decide +kernel
theorem dX10_goBack_14 : decode cX10_goBack 14 = .ok (.aload_n 0, 1) := by decide +kernel
theorem dX10_goBack_15 : decode cX10_goBack 15 = .ok (.getfield 13, 3) := by decide +kernel
theorem dX10_goBack_18 : decode cX10_goBack 18 = .ok (.iload_n 1, 1) := by decide +kernel
theorem dX10_goBack_19 : decode cX10_goBack 19 = .ok (.iaload, 1) := by decide +kernel
theorem dX10_goBack_20 : decode cX10_goBack 20 = .ok (.iastore, 1) := by decide +kernel
theorem dX10_goBack_21 : decode cX10_goBack 21 = .ok (.iinc 1 1, 3) := by decide +kernel
theorem dX10_goBack_24 : decode cX10_goBack 24 = .ok (.goto (-22), 3) := by decide +kernel
theorem dX10_goBack_27 : decode cX10_goBack 27 = .ok (.return_, 1) := by decide +kernel
theorem dX10_recorded_0 : decode cX10_recorded 0 = .ok (.aload_n 0, 1) := by decide +kernel
theorem dX10_recorded_1 : decode cX10_recorded 1 = .ok (.getfield 26, 3) := by decide +kernel
theorem dX10_recorded_4 : decode cX10_recorded 4 = .ok (.iconst 4, 1) := by decide +kernel
theorem dX10_recorded_5 : decode cX10_recorded 5 = .ok (.if_icmp .ne 49, 3) := by decide +kernel
theorem dX10_recorded_8 : decode cX10_recorded 8 = .ok (.aload_n 0, 1) := by decide +kernel
theorem dX10_recorded_9 : decode cX10_recorded 9 = .ok (.dup, 1) := by decide +kernel
theorem dX10_recorded_10 : decode cX10_recorded 10 = .ok (.getfield 26, 3) := by decide +kernel
theorem dX10_recorded_13 : decode cX10_recorded 13 = .ok (.iconst 1, 1) := by decide +kernel
theorem dX10_recorded_14 : decode cX10_recorded 14 = .ok (.isub, 1) := by decide +kernel
theorem dX10_recorded_15 : decode cX10_recorded 15 = .ok (.putfield 26, 3) := by decide +kernel
theorem dX10_recorded_18 : decode cX10_recorded 18 = .ok (.iconst 0, 1) := by decide +kernel
theorem dX10_recorded_19 : decode cX10_recorded 19 = .ok (.istore_n 2, 1) := by decide +kernel
theorem dX10_recorded_20 : decode cX10_recorded 20 = .ok (.iload_n 2, 1) := by decide +kernel
theorem dX10_recorded_21 : decode cX10_recorded 21 = .ok (.sipush 516, 3) := by decide +kernel
theorem dX10_recorded_24 : decode cX10_recorded 24 = .ok (.aload_n 0, 1) := by decide +kernel
theorem dX10_recorded_25 : decode cX10_recorded 25 = .ok (.getfield 26, 3) := by decide +kernel
theorem dX10_recorded_28 : decode cX10_recorded 28 = .ok (.imul, 1) := by decide +kernel
theorem dX10_recorded_29 : decode cX10_recorded 29 = .ok (.if_icmp .ge 25, 3) := by decide +kernel
theorem dX10_recorded_32 : decode cX10_recorded 32 = .ok (.aload_n 0, 1) := by decide +kernel
theorem dX10_recorded_33 : decode cX10_recorded 33 = .ok (.getfield 16, 3) := by decide +kernel
theorem dX10_recorded_36 : decode cX10_recorded 36 = .ok (.iload_n 2, 1) := by decide +kernel
theorem dX10_recorded_37 : decode cX10_recorded 37 = .ok (.aload_n 0, 1) := by decide +kernel
theorem dX10_recorded_38 : decode cX10_recorded 38 = .ok (.getfield 16, 3) := by decide +kernel
theorem dX10_recorded_41 : decode cX10_recorded 41 = .ok (.iload_n 2, 1) := by decide +kernel
theorem dX10_recorded_42 : decode cX10_recorded 42 = .ok (.sipush 516, 3) := by decide +kernel
theorem dX10_recorded_45 : decode cX10_recorded 45 = .ok (.iadd, 1) := by decide +kernel
theorem dX10_recorded_46 : decode cX10_recorded 46 = .ok (.iaload, 1) := by decide +kernel
theorem dX10_recorded_47 : decode cX10_recorded 47 = .ok (.iastore, 1) := by decide +kernel
theorem dX10_recorded_48 : decode cX10_recorded 48 = .ok (.iinc 2 1, 3) := by decide +kernel
theorem dX10_recorded_51 : decode cX10_recorded 51 = .ok (.goto (-31), 3) := by decide +kernel
theorem dX10_recorded_54 : decode cX10_recorded 54 = .ok (.iconst 0, 1) := by decide +kernel
theorem dX10_recorded_55 : decode cX10_recorded 55 = .ok (.istore_n 2, 1) := by decide +kernel
theorem dX10_recorded_56 : decode cX10_recorded 56 = .ok (.iload_n 2, 1) := by decide +kernel
theorem dX10_recorded_57 : decode cX10_recorded 57 = .ok (.sipush 516, 3) := by decide +kernel
theorem dX10_recorded_60 : decode cX10_recorded 60 = .ok (.if_icmp .ge 30, 3) := by decide +kernel
theorem dX10_recorded_63 : decode cX10_recorded 63 = .ok (.aload_n 0, 1) := by decide +kernel
theorem dX10_recorded_64 : decode cX10_recorded 64 = .ok (.getfield 16, 3) := by decide +kernel
theorem dX10_recorded_67 : decode cX10_recorded 67 = .ok (.sipush 516, 3) := by decide +kernel
theorem dX10_recorded_70 : decode cX10_recorded 70 = .ok (.aload_n 0, 1) := by decide +kernel
theorem dX10_recorded_71 : decode cX10_recorded 71 = .ok (.getfield 26, 3) := by decide +kernel
theorem dX10_recorded_74 : decode cX10_recorded 74 = .ok (.imul, 1) := by decide +kernel
theorem dX10_recorded_75 : decode cX10_recorded 75 = .ok (.iload_n 2, 1) := by decide +kernel
theorem dX10_recorded_76 : decode cX10_recorded 76 = .ok (.iadd, 1) := by decide +kernel
theorem dX10_recorded_77 : decode cX10_recorded 77 = .ok (.aload_n 0, 1) := by decide +kernel
theorem dX10_recorded_78 : decode cX10_recorded 78 = .ok (.getfield 13, 3) := by decide +kernel
theorem dX10_recorded_81 : decode cX10_recorded 81 = .ok (.iload_n 2, 1) := by decide +kernel
theorem dX10_recorded_82 : decode cX10_recorded 82 = .ok (.iaload, 1) := by decide +kernel
theorem dX10_recorded_83 : decode cX10_recorded 83 = .ok (.iastore, 1) := by decide +kernel
theorem dX10_recorded_84 : decode cX10_recorded 84 = .ok (.iinc 2 1, 3) := by decide +kernel
theorem dX10_recorded_87 : decode cX10_recorded 87 = .ok (.goto (-31), 3) := by decide +kernel
theorem dX10_recorded_90 : decode cX10_recorded 90 = .ok (.aload_n 0, 1) := by decide +kernel
theorem dX10_recorded_91 : decode cX10_recorded 91 = .ok (.dup, 1) := by decide +kernel
theorem dX10_recorded_92 : decode cX10_recorded 92 = .ok (.getfield 26, 3) := by decide +kernel
theorem dX10_recorded_95 : decode cX10_recorded 95 = .ok (.iconst 1, 1) := by decide +kernel
theorem dX10_recorded_96 : decode cX10_recorded 96 = .ok (.iadd, 1) := by decide +kernel
theorem dX10_recorded_97 : decode cX10_recorded 97 = .ok (.putfield 26, 3) := by decide +kernel
theorem dX10_recorded_100 : decode cX10_recorded 100 = .ok (.iload_n 1, 1) := by decide +kernel
theorem dX10_recorded_101 : decode cX10_recorded 101 = .ok (.ireturn, 1) := by decide +kernel
set_option maxRecDepth 20000 in
theorem ggX10_done_X10_recorded : GoodIn wsX10_done wsX10_recorded := goodIn_r _ [5, 6, 7, 8, 9, 10, 11, 12, 13, 14, 15, 16, 17, 18] (by decide +kernel) (by decide +kernel)
set_option maxRecDepth 20000 in
theorem gX10_done_X10_recorded : GoodIn wsX10_done (wsV RX10 30 RX10 yX10_recorded wsX10_recorded) := goodIn_app (goodIn_of _ (by decide +kernel)) ggX10_done_X10_recorded
theorem dX10_done_0 : decode cX10_done 0 = .ok (.iload_n 1, 1) := by decide +kernel
theorem dX10_done_1 : decode cX10_done 1 = .ok (.ifCond .ge 7, 3) := by decide +kernel
theorem dX10_done_4 : decode cX10_done 4 = .ok (.iload_n 1, 1) := by decide +kernel
theorem dX10_done_5 : decode cX10_done 5 = .ok (.goto 8, 3) := by decide +kernel
theorem dX10_done_8 : decode cX10_done 8 = .ok (.aload_n 0, 1) := by decide +kernel
theorem dX10_done_9 : decode cX10_done 9 = .ok (.iload_n 1, 1) := by decide +kernel
theorem dX10_done_10 : decode cX10_done 10 = .ok (.invokevirtual 30, 3) := by decide +kernel
theorem dX10_done_13 : decode cX10_done 13 = .ok (.ireturn, 1) := by decide +kernel
theorem dX10_undo_0 : decode cX10_undo 0 = .ok (.aload_n 0, 1) := by decide +kernel
theorem dX10_undo_1 : decode cX10_undo 1 = .ok (.getfield 26, 3) := by decide +kernel
theorem dX10_undo_4 : decode cX10_undo 4 = .ok (.ifCond .ne 6, 3) := by decide +kernel
theorem dX10_undo_7 : decode cX10_undo 7 = .ok (.bipush (-5), 2) := by decide +kernel
theorem dX10_undo_9 : decode cX10_undo 9 = .ok (.ireturn, 1) := by decide +kernel
theorem dX10_undo_10 : decode cX10_undo 10 = .ok (.aload_n 0, 1) := by decide +kernel
theorem dX10_undo_11 : decode cX10_undo 11 = .ok (.dup, 1) := by decide +kernel
theorem dX10_undo_12 : decode cX10_undo 12 = .ok (.getfield 26, 3) := by decide +kernel
theorem dX10_undo_15 : decode cX10_undo 15 = .ok (.iconst 1, 1) := by decide +kernel
theorem dX10_undo_16 : decode cX10_undo 16 = .ok (.isub, 1) := by decide +kernel
theorem dX10_undo_17 : decode cX10_undo 17 = .ok (.putfield 26, 3) := by decide +kernel
theorem dX10_undo_20 : decode cX10_undo 20 = .ok (.iconst 0, 1) := by decide +kernel
theorem dX10_undo_21 : decode cX10_undo 21 = .ok (.istore_n 1, 1) := by decide +kernel
theorem dX10_undo_22 : decode cX10_undo 22 = .ok (.iload_n 1, 1) := by decide +kernel
theorem dX10_undo_23 : decode cX10_undo 23 = .ok (.sipush 516, 3) := by decide +kernel
theorem dX10_undo_26 : decode cX10_undo 26 = .ok (.if_icmp .ge 30, 3) := by decide +kernel
theorem dX10_undo_29 : decode cX10_undo 29 = .ok (.aload_n 0, 1) := by decide +kernel
theorem dX10_undo_30 : decode cX10_undo 30 = .ok (.getfield 7, 3) := by decide +kernel
theorem dX10_undo_33 : decode cX10_undo 33 = .ok (.iload_n 1, 1) := by decide +kernel
theorem dX10_undo_34 : decode cX10_undo 34 = .ok (.aload_n 0, 1) := by decide +kernel
theorem dX10_undo_35 : decode cX10_undo 35 = .ok (.getfield 16, 3) := by decide +kernel
theorem dX10_undo_38 : decode cX10_undo 38 = .ok (.sipush 516, 3) := by decide +kernel
theorem dX10_undo_41 : decode cX10_undo 41 = .ok (.aload_n 0, 1) := by decide +kernel
theorem dX10_undo_42 : decode cX10_undo 42 = .ok (.getfield 26, 3) := by decide +kernel
theorem dX10_undo_45 : decode cX10_undo 45 = .ok (.imul, 1) := by decide +kernel
theorem dX10_undo_46 : decode cX10_undo 46 = .ok (.iload_n 1, 1) := by decide +kernel
theorem dX10_undo_47 : decode cX10_undo 47 = .ok (.iadd, 1) := by decide +kernel
theorem dX10_undo_48 : decode cX10_undo 48 = .ok (.iaload, 1) := by decide +kernel
theorem dX10_undo_49 : decode cX10_undo 49 = .ok (.iastore, 1) := by decide +kernel
theorem dX10_undo_50 : decode cX10_undo 50 = .ok (.iinc 1 1, 3) := by decide +kernel
theorem dX10_undo_53 : decode cX10_undo 53 = .ok (.goto (-31), 3) := by decide +kernel
theorem dX10_undo_56 : decode cX10_undo 56 = .ok (.aload_n 0, 1) := by decide +kernel
theorem dX10_undo_57 : decode cX10_undo 57 = .ok (.getfield 26, 3) := by decide +kernel
theorem dX10_undo_60 : decode cX10_undo 60 = .ok (.ireturn, 1) := by decide +kernel
theorem dX10_gateOf_0 : decode cX10_gateOf 0 = .ok (.aload_n 0, 1) := by decide +kernel
theorem dX10_gateOf_1 : decode cX10_gateOf 1 = .ok (.getfield 7, 3) := by decide +kernel
theorem dX10_gateOf_4 : decode cX10_gateOf 4 = .ok (.bipush 8, 2) := by decide +kernel
theorem dX10_gateOf_6 : decode cX10_gateOf 6 = .ok (.bipush 14, 2) := by decide +kernel
theorem dX10_gateOf_8 : decode cX10_gateOf 8 = .ok (.iload_n 1, 1) := by decide +kernel
theorem dX10_gateOf_9 : decode cX10_gateOf 9 = .ok (.imul, 1) := by decide +kernel
theorem dX10_gateOf_10 : decode cX10_gateOf 10 = .ok (.iadd, 1) := by decide +kernel
theorem dX10_gateOf_11 : decode cX10_gateOf 11 = .ok (.iload_n 2, 1) := by decide +kernel
theorem dX10_gateOf_12 : decode cX10_gateOf 12 = .ok (.iadd, 1) := by decide +kernel
theorem dX10_gateOf_13 : decode cX10_gateOf 13 = .ok (.iaload, 1) := by decide +kernel
theorem dX10_gateOf_14 : decode cX10_gateOf 14 = .ok (.ireturn, 1) := by decide +kernel
theorem dX10_putGate_0 : decode cX10_putGate 0 = .ok (.aload_n 0, 1) := by decide +kernel
theorem dX10_putGate_1 : decode cX10_putGate 1 = .ok (.getfield 7, 3) := by decide +kernel
theorem dX10_putGate_4 : decode cX10_putGate 4 = .ok (.bipush 8, 2) := by decide +kernel
theorem dX10_putGate_6 : decode cX10_putGate 6 = .ok (.bipush 14, 2) := by decide +kernel
theorem dX10_putGate_8 : decode cX10_putGate 8 = .ok (.iload_n 1, 1) := by decide +kernel
theorem dX10_putGate_9 : decode cX10_putGate 9 = .ok (.imul, 1) := by decide +kernel
theorem dX10_putGate_10 : decode cX10_putGate 10 = .ok (.iadd, 1) := by decide +kernel
theorem dX10_putGate_11 : decode cX10_putGate 11 = .ok (.iload_n 2, 1) := by decide +kernel
theorem dX10_putGate_12 : decode cX10_putGate 12 = .ok (.iadd, 1) := by decide +kernel
theorem dX10_putGate_13 : decode cX10_putGate 13 = .ok (.iload_n 3, 1) := by decide +kernel
theorem dX10_putGate_14 : decode cX10_putGate 14 = .ok (.iastore, 1) := by decide +kernel
theorem dX10_putGate_15 : decode cX10_putGate 15 = .ok (.return_, 1) := by decide +kernel
theorem dX10_of_0 : decode cX10_of 0 = .ok (.aload_n 0, 1) := by decide +kernel
theorem dX10_of_1 : decode cX10_of 1 = .ok (.getfield 7, 3) := by decide +kernel
theorem dX10_of_4 : decode cX10_of 4 = .ok (.bipush 120, 2) := by decide +kernel
theorem dX10_of_6 : decode cX10_of 6 = .ok (.bipush 7, 2) := by decide +kernel
theorem dX10_of_8 : decode cX10_of 8 = .ok (.iload_n 1, 1) := by decide +kernel
theorem dX10_of_9 : decode cX10_of 9 = .ok (.imul, 1) := by decide +kernel
theorem dX10_of_10 : decode cX10_of 10 = .ok (.iadd, 1) := by decide +kernel
theorem dX10_of_11 : decode cX10_of 11 = .ok (.iload_n 2, 1) := by decide +kernel
theorem dX10_of_12 : decode cX10_of 12 = .ok (.iadd, 1) := by decide +kernel
theorem dX10_of_13 : decode cX10_of 13 = .ok (.iaload, 1) := by decide +kernel
theorem dX10_of_14 : decode cX10_of 14 = .ok (.ireturn, 1) := by decide +kernel
theorem dX10_put_0 : decode cX10_put 0 = .ok (.aload_n 0, 1) := by decide +kernel
theorem dX10_put_1 : decode cX10_put 1 = .ok (.getfield 7, 3) := by decide +kernel
theorem dX10_put_4 : decode cX10_put 4 = .ok (.bipush 120, 2) := by decide +kernel
theorem dX10_put_6 : decode cX10_put 6 = .ok (.bipush 7, 2) := by decide +kernel
theorem dX10_put_8 : decode cX10_put 8 = .ok (.iload_n 1, 1) := by decide +kernel
theorem dX10_put_9 : decode cX10_put 9 = .ok (.imul, 1) := by decide +kernel
theorem dX10_put_10 : decode cX10_put 10 = .ok (.iadd, 1) := by decide +kernel
theorem dX10_put_11 : decode cX10_put 11 = .ok (.iload_n 2, 1) := by decide +kernel
theorem dX10_put_12 : decode cX10_put 12 = .ok (.iadd, 1) := by decide +kernel
theorem dX10_put_13 : decode cX10_put 13 = .ok (.iload_n 3, 1) := by decide +kernel
theorem dX10_put_14 : decode cX10_put 14 = .ok (.iastore, 1) := by decide +kernel
theorem dX10_put_15 : decode cX10_put 15 = .ok (.return_, 1) := by decide +kernel
set_option maxRecDepth 20000 in
theorem ggX10_noGate_X10_in : GoodIn wsX10_noGate wsX10_in := goodIn_r _ [5] (by decide +kernel) (by decide +kernel)
set_option maxRecDepth 20000 in
theorem gX10_noGate_X10_in : GoodIn wsX10_noGate (va_wsS RX10 34 yX10_in wsX10_in) := goodIn_app (goodIn_of _ (by decide +kernel)) ggX10_noGate_X10_in
theorem dX10_noGate_0 : decode cX10_noGate 0 = .ok (.iload_n 1, 1) := by decide +kernel
theorem dX10_noGate_1 : decode cX10_noGate 1 = .ok (.iconst 0, 1) := by decide +kernel
theorem dX10_noGate_2 : decode cX10_noGate 2 = .ok (.aload_n 0, 1) := by decide +kernel
theorem dX10_noGate_3 : decode cX10_noGate 3 = .ok (.getfield 7, 3) := by decide +kernel
theorem dX10_noGate_6 : decode cX10_noGate 6 = .ok (.iconst 1, 1) := by decide +kernel
theorem dX10_noGate_7 : decode cX10_noGate 7 = .ok (.iaload, 1) := by decide +kernel
theorem dX10_noGate_8 : decode cX10_noGate 8 = .ok (.iconst 1, 1) := by decide +kernel
theorem dX10_noGate_9 : decode cX10_noGate 9 = .ok (.isub, 1) := by decide +kernel
theorem dX10_noGate_10 : decode cX10_noGate 10 = .ok (.invokestatic 34, 3) := by decide +kernel
theorem dX10_noGate_13 : decode cX10_noGate 13 = .ok (.ifCond .ne 7, 3) := by decide +kernel
theorem dX10_noGate_16 : decode cX10_noGate 16 = .ok (.iconst 1, 1) := by decide +kernel
theorem dX10_noGate_17 : decode cX10_noGate 17 = .ok (.goto 4, 3) := by decide +kernel
theorem dX10_noGate_20 : decode cX10_noGate 20 = .ok (.iconst 0, 1) := by decide +kernel
theorem dX10_noGate_21 : decode cX10_noGate 21 = .ok (.ireturn, 1) := by decide +kernel
set_option maxRecDepth 20000 in
theorem ggX10_noPerson_X10_in : GoodIn wsX10_noPerson wsX10_in := goodIn_r _ [5] (by decide +kernel) (by decide +kernel)
set_option maxRecDepth 20000 in
theorem gX10_noPerson_X10_in : GoodIn wsX10_noPerson (va_wsS RX10 34 yX10_in wsX10_in) := goodIn_app (goodIn_of _ (by decide +kernel)) ggX10_noPerson_X10_in
theorem dX10_noPerson_0 : decode cX10_noPerson 0 = .ok (.iload_n 1, 1) := by decide +kernel
theorem dX10_noPerson_1 : decode cX10_noPerson 1 = .ok (.iconst 0, 1) := by decide +kernel
theorem dX10_noPerson_2 : decode cX10_noPerson 2 = .ok (.aload_n 0, 1) := by decide +kernel
theorem dX10_noPerson_3 : decode cX10_noPerson 3 = .ok (.getfield 7, 3) := by decide +kernel
theorem dX10_noPerson_6 : decode cX10_noPerson 6 = .ok (.iconst 2, 1) := by decide +kernel
theorem dX10_noPerson_7 : decode cX10_noPerson 7 = .ok (.iaload, 1) := by decide +kernel
theorem dX10_noPerson_8 : decode cX10_noPerson 8 = .ok (.iconst 1, 1) := by decide +kernel
theorem dX10_noPerson_9 : decode cX10_noPerson 9 = .ok (.isub, 1) := by decide +kernel
theorem dX10_noPerson_10 : decode cX10_noPerson 10 = .ok (.invokestatic 34, 3) := by decide +kernel
theorem dX10_noPerson_13 : decode cX10_noPerson 13 = .ok (.ifCond .ne 7, 3) := by decide +kernel
theorem dX10_noPerson_16 : decode cX10_noPerson 16 = .ok (.iconst 1, 1) := by decide +kernel
theorem dX10_noPerson_17 : decode cX10_noPerson 17 = .ok (.goto 4, 3) := by decide +kernel
theorem dX10_noPerson_20 : decode cX10_noPerson 20 = .ok (.iconst 0, 1) := by decide +kernel
theorem dX10_noPerson_21 : decode cX10_noPerson 21 = .ok (.ireturn, 1) := by decide +kernel
set_option maxRecDepth 20000 in
theorem ggX10_noPass_X10_in : GoodIn wsX10_noPass wsX10_in := goodIn_r _ [5] (by decide +kernel) (by decide +kernel)
set_option maxRecDepth 20000 in
theorem gX10_noPass_X10_in : GoodIn wsX10_noPass (va_wsS RX10 34 yX10_in wsX10_in) := goodIn_app (goodIn_of _ (by decide +kernel)) ggX10_noPass_X10_in
theorem dX10_noPass_0 : decode cX10_noPass 0 = .ok (.iload_n 1, 1) := by decide +kernel
theorem dX10_noPass_1 : decode cX10_noPass 1 = .ok (.iconst 0, 1) := by decide +kernel
theorem dX10_noPass_2 : decode cX10_noPass 2 = .ok (.aload_n 0, 1) := by decide +kernel
theorem dX10_noPass_3 : decode cX10_noPass 3 = .ok (.getfield 7, 3) := by decide +kernel
theorem dX10_noPass_6 : decode cX10_noPass 6 = .ok (.iconst 3, 1) := by decide +kernel
theorem dX10_noPass_7 : decode cX10_noPass 7 = .ok (.iaload, 1) := by decide +kernel
theorem dX10_noPass_8 : decode cX10_noPass 8 = .ok (.iconst 1, 1) := by decide +kernel
theorem dX10_noPass_9 : decode cX10_noPass 9 = .ok (.isub, 1) := by decide +kernel
theorem dX10_noPass_10 : decode cX10_noPass 10 = .ok (.invokestatic 34, 3) := by decide +kernel
theorem dX10_noPass_13 : decode cX10_noPass 13 = .ok (.ifCond .ne 7, 3) := by decide +kernel
theorem dX10_noPass_16 : decode cX10_noPass 16 = .ok (.iconst 1, 1) := by decide +kernel
theorem dX10_noPass_17 : decode cX10_noPass 17 = .ok (.goto 4, 3) := by decide +kernel
theorem dX10_noPass_20 : decode cX10_noPass 20 = .ok (.iconst 0, 1) := by decide +kernel
theorem dX10_noPass_21 : decode cX10_noPass 21 = .ok (.ireturn, 1) := by decide +kernel
set_option maxRecDepth 20000 in
theorem ggX10_noPool_X10_in : GoodIn wsX10_noPool wsX10_in := goodIn_r _ [5] (by decide +kernel) (by decide +kernel)
set_option maxRecDepth 20000 in
theorem gX10_noPool_X10_in : GoodIn wsX10_noPool (va_wsS RX10 34 yX10_in wsX10_in) := goodIn_app (goodIn_of _ (by decide +kernel)) ggX10_noPool_X10_in
theorem dX10_noPool_0 : decode cX10_noPool 0 = .ok (.iload_n 1, 1) := by decide +kernel
theorem dX10_noPool_1 : decode cX10_noPool 1 = .ok (.iconst 0, 1) := by decide +kernel
theorem dX10_noPool_2 : decode cX10_noPool 2 = .ok (.aload_n 0, 1) := by decide +kernel
theorem dX10_noPool_3 : decode cX10_noPool 3 = .ok (.getfield 7, 3) := by decide +kernel
theorem dX10_noPool_6 : decode cX10_noPool 6 = .ok (.iconst 4, 1) := by decide +kernel
theorem dX10_noPool_7 : decode cX10_noPool 7 = .ok (.iaload, 1) := by decide +kernel
theorem dX10_noPool_8 : decode cX10_noPool 8 = .ok (.iconst 1, 1) := by decide +kernel
theorem dX10_noPool_9 : decode cX10_noPool 9 = .ok (.isub, 1) := by decide +kernel
theorem dX10_noPool_10 : decode cX10_noPool 10 = .ok (.invokestatic 34, 3) := by decide +kernel
theorem dX10_noPool_13 : decode cX10_noPool 13 = .ok (.ifCond .ne 7, 3) := by decide +kernel
theorem dX10_noPool_16 : decode cX10_noPool 16 = .ok (.iconst 1, 1) := by decide +kernel
theorem dX10_noPool_17 : decode cX10_noPool 17 = .ok (.goto 4, 3) := by decide +kernel
theorem dX10_noPool_20 : decode cX10_noPool 20 = .ok (.iconst 0, 1) := by decide +kernel
theorem dX10_noPool_21 : decode cX10_noPool 21 = .ok (.ireturn, 1) := by decide +kernel
set_option maxRecDepth 20000 in
theorem ggX10_addGate_X10_in : GoodIn wsX10_addGate wsX10_in := goodIn_r _ [5] (by decide +kernel) (by decide +kernel)
set_option maxRecDepth 20000 in
theorem gX10_addGate_X10_in : GoodIn wsX10_addGate (va_wsS RX10 34 yX10_in wsX10_in) := goodIn_app (goodIn_of _ (by decide +kernel)) ggX10_addGate_X10_in
set_option maxRecDepth 20000 in
theorem ggX10_addGate_X10_begin : GoodIn wsX10_addGate wsX10_begin := goodIn_r _ [9, 10, 1, 25, 26, 27, 28, 29, 30, 31, 32, 33, 34] (by decide +kernel) (by decide +kernel)
set_option maxRecDepth 20000 in
theorem gX10_addGate_X10_begin : GoodIn wsX10_addGate (wsV RX10 38 RX10 yX10_begin wsX10_begin) := goodIn_app (goodIn_of _ (by decide +kernel)) ggX10_addGate_X10_begin
set_option maxRecDepth 20000 in
theorem ggX10_addGate_X10_putGate : GoodIn wsX10_addGate wsX10_putGate := goodIn_r _ [14, 1, 25, 26, 27, 28, 29, 30, 31, 32, 33, 34] (by decide +kernel) (by decide +kernel)
set_option maxRecDepth 20000 in
theorem gX10_addGate_X10_putGate : GoodIn wsX10_addGate (wsV RX10 41 RX10 yX10_putGate wsX10_putGate) := goodIn_app (goodIn_of _ (by decide +kernel)) ggX10_addGate_X10_putGate
set_option maxRecDepth 20000 in
theorem ggX10_addGate_X10_done : GoodIn wsX10_addGate wsX10_done := goodIn_r _ [18, 19, 20, 21, 4, 22, 23, 24, 10, 25, 26, 27, 28, 29, 30, 31, 32, 33, 34] (by decide +kernel) (by decide +kernel)
set_option maxRecDepth 20000 in
theorem gX10_addGate_X10_done : GoodIn wsX10_addGate (wsV RX10 45 RX10 yX10_done wsX10_done) := goodIn_app (goodIn_of _ (by decide +kernel)) ggX10_addGate_X10_done
theorem dX10_addGate_0 : decode cX10_addGate 0 = .ok (.iload_n 1, 1) := by decide +kernel
theorem dX10_addGate_1 : decode cX10_addGate 1 = .ok (.iconst 0, 1) := by decide +kernel
theorem dX10_addGate_2 : decode cX10_addGate 2 = .ok (.iconst 2, 1) := by decide +kernel
theorem dX10_addGate_3 : decode cX10_addGate 3 = .ok (.invokestatic 34, 3) := by decide +kernel
theorem dX10_addGate_6 : decode cX10_addGate 6 = .ok (.ifCond .eq 34, 3) := by decide +kernel
theorem dX10_addGate_9 : decode cX10_addGate 9 = .ok (.iload_n 2, 1) := by decide +kernel
theorem dX10_addGate_10 : decode cX10_addGate 10 = .ok (.iconst 1, 1) := by decide +kernel
theorem dX10_addGate_11 : decode cX10_addGate 11 = .ok (.bipush 10, 2) := by decide +kernel
theorem dX10_addGate_13 : decode cX10_addGate 13 = .ok (.invokestatic 34, 3) := by decide +kernel
theorem dX10_addGate_16 : decode cX10_addGate 16 = .ok (.ifCond .eq 24, 3) := by decide +kernel
theorem dX10_addGate_19 : decode cX10_addGate 19 = .ok (.iload_n 3, 1) := by decide +kernel
theorem dX10_addGate_20 : decode cX10_addGate 20 = .ok (.iconst 1, 1) := by decide +kernel
theorem dX10_addGate_21 : decode cX10_addGate 21 = .ok (.bipush 20, 2) := by decide +kernel
theorem dX10_addGate_23 : decode cX10_addGate 23 = .ok (.invokestatic 34, 3) := by decide +kernel
theorem dX10_addGate_26 : decode cX10_addGate 26 = .ok (.ifCond .eq 14, 3) := by decide +kernel
theorem dX10_addGate_29 : decode cX10_addGate 29 = .ok (.iload 4, 2) := by decide +kernel
theorem dX10_addGate_31 : decode cX10_addGate 31 = .ok (.iconst 1, 1) := by decide +kernel
theorem dX10_addGate_32 : decode cX10_addGate 32 = .ok (.bipush 10, 2) := by decide +kernel
theorem dX10_addGate_34 : decode cX10_addGate 34 = .ok (.invokestatic 34, 3) := by decide +kernel
theorem dX10_addGate_37 : decode cX10_addGate 37 = .ok (.ifCond .ne 6, 3) := by decide +kernel
theorem dX10_addGate_40 : decode cX10_addGate 40 = .ok (.bipush (-2), 2) := by decide +kernel
theorem dX10_addGate_42 : decode cX10_addGate 42 = .ok (.ireturn, 1) := by decide +kernel
theorem dX10_addGate_43 : decode cX10_addGate 43 = .ok (.aload_n 0, 1) := by decide +kernel
theorem dX10_addGate_44 : decode cX10_addGate 44 = .ok (.getfield 7, 3) := by decide +kernel
theorem dX10_addGate_47 : decode cX10_addGate 47 = .ok (.iconst 1, 1) := by decide +kernel
theorem dX10_addGate_48 : decode cX10_addGate 48 = .ok (.iaload, 1) := by decide +kernel
theorem dX10_addGate_49 : decode cX10_addGate 49 = .ok (.bipush 8, 2) := by decide +kernel
theorem dX10_addGate_51 : decode cX10_addGate 51 = .ok (.if_icmp .ne 6, 3) := by decide +kernel
theorem dX10_addGate_54 : decode cX10_addGate 54 = .ok (.bipush (-3), 2) := by decide +kernel
theorem dX10_addGate_56 : decode cX10_addGate 56 = .ok (.ireturn, 1) := by decide +kernel
theorem dX10_addGate_57 : decode cX10_addGate 57 = .ok (.aload_n 0, 1) := by decide +kernel
theorem dX10_addGate_58 : decode cX10_addGate 58 = .ok (.invokevirtual 38, 3) := by decide +kernel
theorem dX10_addGate_61 : decode cX10_addGate 61 = .ok (.aload_n 0, 1) := by decide +kernel
theorem dX10_addGate_62 : decode cX10_addGate 62 = .ok (.getfield 7, 3) := by decide +kernel
theorem dX10_addGate_65 : decode cX10_addGate 65 = .ok (.iconst 1, 1) := by decide +kernel
theorem dX10_addGate_66 : decode cX10_addGate 66 = .ok (.iaload, 1) := by decide +kernel
theorem dX10_addGate_67 : decode cX10_addGate 67 = .ok (.istore 5, 2) := by decide +kernel
theorem dX10_addGate_69 : decode cX10_addGate 69 = .ok (.iconst 0, 1) := by decide +kernel
theorem dX10_addGate_70 : decode cX10_addGate 70 = .ok (.istore 6, 2) := by decide +kernel
theorem dX10_addGate_72 : decode cX10_addGate 72 = .ok (.iload 6, 2) := by decide +kernel
theorem dX10_addGate_74 : decode cX10_addGate 74 = .ok (.bipush 14, 2) := by decide +kernel
theorem dX10_addGate_76 : decode cX10_addGate 76 = .ok (.if_icmp .ge 18, 3) := by decide +kernel
theorem dX10_addGate_79 : decode cX10_addGate 79 = .ok (.aload_n 0, 1) := by decide +kernel
theorem dX10_addGate_80 : decode cX10_addGate 80 = .ok (.iload 5, 2) := by decide +kernel
theorem dX10_addGate_82 : decode cX10_addGate 82 = .ok (.iload 6, 2) := by decide +kernel
theorem dX10_addGate_84 : decode cX10_addGate 84 = .ok (.iconst 0, 1) := by decide +kernel
theorem dX10_addGate_85 : decode cX10_addGate 85 = .ok (.invokevirtual 41, 3) := by decide +kernel
theorem dX10_addGate_88 : decode cX10_addGate 88 = .ok (.iinc 6 1, 3) := by decide +kernel
theorem dX10_addGate_91 : decode cX10_addGate 91 = .ok (.goto (-19), 3) := by decide +kernel
theorem dX10_addGate_94 : decode cX10_addGate 94 = .ok (.aload_n 0, 1) := by decide +kernel
theorem dX10_addGate_95 : decode cX10_addGate 95 = .ok (.iload 5, 2) := by decide +kernel
theorem dX10_addGate_97 : decode cX10_addGate 97 = .ok (.iconst 0, 1) := by decide +kernel
theorem dX10_addGate_98 : decode cX10_addGate 98 = .ok (.iload_n 1, 1) := by decide +kernel
theorem dX10_addGate_99 : decode cX10_addGate 99 = .ok (.invokevirtual 41, 3) := by decide +kernel
theorem dX10_addGate_102 : decode cX10_addGate 102 = .ok (.aload_n 0, 1) := by decide +kernel
theorem dX10_addGate_103 : decode cX10_addGate 103 = .ok (.iload 5, 2) := by decide +kernel
theorem dX10_addGate_105 : decode cX10_addGate 105 = .ok (.iconst 1, 1) := by decide +kernel
theorem dX10_addGate_106 : decode cX10_addGate 106 = .ok (.iload_n 2, 1) := by decide +kernel
theorem dX10_addGate_107 : decode cX10_addGate 107 = .ok (.invokevirtual 41, 3) := by decide +kernel
theorem dX10_addGate_110 : decode cX10_addGate 110 = .ok (.aload_n 0, 1) := by decide +kernel
theorem dX10_addGate_111 : decode cX10_addGate 111 = .ok (.iload 5, 2) := by decide +kernel
theorem dX10_addGate_113 : decode cX10_addGate 113 = .ok (.iconst 2, 1) := by decide +kernel
theorem dX10_addGate_114 : decode cX10_addGate 114 = .ok (.iload_n 3, 1) := by decide +kernel
theorem dX10_addGate_115 : decode cX10_addGate 115 = .ok (.invokevirtual 41, 3) := by decide +kernel
theorem dX10_addGate_118 : decode cX10_addGate 118 = .ok (.aload_n 0, 1) := by decide +kernel
theorem dX10_addGate_119 : decode cX10_addGate 119 = .ok (.iload 5, 2) := by decide +kernel
theorem dX10_addGate_121 : decode cX10_addGate 121 = .ok (.iconst 3, 1) := by decide +kernel
theorem dX10_addGate_122 : decode cX10_addGate 122 = .ok (.iload 4, 2) := by decide +kernel
theorem dX10_addGate_124 : decode cX10_addGate 124 = .ok (.invokevirtual 41, 3) := by decide +kernel
theorem dX10_addGate_127 : decode cX10_addGate 127 = .ok (.aload_n 0, 1) := by decide +kernel
theorem dX10_addGate_128 : decode cX10_addGate 128 = .ok (.iload 5, 2) := by decide +kernel
theorem dX10_addGate_130 : decode cX10_addGate 130 = .ok (.bipush 6, 2) := by decide +kernel
theorem dX10_addGate_132 : decode cX10_addGate 132 = .ok (.bipush (-5), 2) := by decide +kernel
theorem dX10_addGate_134 : decode cX10_addGate 134 = .ok (.invokevirtual 41, 3) := by decide +kernel
theorem dX10_addGate_137 : decode cX10_addGate 137 = .ok (.aload_n 0, 1) := by decide +kernel
theorem dX10_addGate_138 : decode cX10_addGate 138 = .ok (.getfield 7, 3) := by decide +kernel
theorem dX10_addGate_141 : decode cX10_addGate 141 = .ok (.iconst 1, 1) := by decide +kernel
theorem dX10_addGate_142 : decode cX10_addGate 142 = .ok (.dup2, 1) := by decide +kernel
theorem dX10_addGate_143 : decode cX10_addGate 143 = .ok (.iaload, 1) := by decide +kernel
theorem dX10_addGate_144 : decode cX10_addGate 144 = .ok (.iconst 1, 1) := by decide +kernel
theorem dX10_addGate_145 : decode cX10_addGate 145 = .ok (.iadd, 1) := by decide +kernel
theorem dX10_addGate_146 : decode cX10_addGate 146 = .ok (.iastore, 1) := by decide +kernel
theorem dX10_addGate_147 : decode cX10_addGate 147 = .ok (.aload_n 0, 1) := by decide +kernel
theorem dX10_addGate_148 : decode cX10_addGate 148 = .ok (.iload 5, 2) := by decide +kernel
theorem dX10_addGate_150 : decode cX10_addGate 150 = .ok (.invokevirtual 45, 3) := by decide +kernel
theorem dX10_addGate_153 : decode cX10_addGate 153 = .ok (.ireturn, 1) := by decide +kernel
set_option maxRecDepth 20000 in
theorem ggX10_setDirection_X10_noGate : GoodIn wsX10_setDirection wsX10_noGate := goodIn_r _ [5, 6, 7, 8, 4, 9, 33, 34, 35, 36, 37, 38, 39, 40, 41, 42] (by decide +kernel) (by decide +kernel)
set_option maxRecDepth 20000 in
theorem gX10_setDirection_X10_noGate : GoodIn wsX10_setDirection (wsV RX10 48 RX10 yX10_noGate wsX10_noGate) := goodIn_app (goodIn_of _ (by decide +kernel)) ggX10_setDirection_X10_noGate
set_option maxRecDepth 20000 in
theorem ggX10_setDirection_X10_in : GoodIn wsX10_setDirection wsX10_in := goodIn_r _ [9] (by decide +kernel) (by decide +kernel)
set_option maxRecDepth 20000 in
theorem gX10_setDirection_X10_in : GoodIn wsX10_setDirection (va_wsS RX10 34 yX10_in wsX10_in) := goodIn_app (goodIn_of _ (by decide +kernel)) ggX10_setDirection_X10_in
set_option maxRecDepth 20000 in
theorem ggX10_setDirection_X10_begin : GoodIn wsX10_setDirection wsX10_begin := goodIn_r _ [13, 14, 6, 33, 34, 35, 36, 37, 38, 39, 40, 41, 42] (by decide +kernel) (by decide +kernel)
set_option maxRecDepth 20000 in
theorem gX10_setDirection_X10_begin : GoodIn wsX10_setDirection (wsV RX10 38 RX10 yX10_begin wsX10_begin) := goodIn_app (goodIn_of _ (by decide +kernel)) ggX10_setDirection_X10_begin
set_option maxRecDepth 20000 in
theorem ggX10_setDirection_X10_gateOf : GoodIn wsX10_setDirection wsX10_gateOf := goodIn_r _ [18, 6, 33, 34, 35, 36, 37, 38, 39, 40, 41, 42] (by decide +kernel) (by decide +kernel)
set_option maxRecDepth 20000 in
theorem gX10_setDirection_X10_gateOf : GoodIn wsX10_setDirection (wsV RX10 52 RX10 yX10_gateOf wsX10_gateOf) := goodIn_app (goodIn_of _ (by decide +kernel)) ggX10_setDirection_X10_gateOf
set_option maxRecDepth 20000 in
theorem ggX10_setDirection_X10_putGate : GoodIn wsX10_setDirection wsX10_putGate := goodIn_r _ [22, 6, 33, 34, 35, 36, 37, 38, 39, 40, 41, 42] (by decide +kernel) (by decide +kernel)
set_option maxRecDepth 20000 in
theorem gX10_setDirection_X10_putGate : GoodIn wsX10_setDirection (wsV RX10 41 RX10 yX10_putGate wsX10_putGate) := goodIn_app (goodIn_of _ (by decide +kernel)) ggX10_setDirection_X10_putGate
set_option maxRecDepth 20000 in
theorem ggX10_setDirection_X10_done : GoodIn wsX10_setDirection wsX10_done := goodIn_r _ [26, 27, 28, 29, 4, 30, 31, 32, 14, 33, 34, 35, 36, 37, 38, 39, 40, 41, 42] (by decide +kernel) (by decide +kernel)
set_option maxRecDepth 20000 in
theorem gX10_setDirection_X10_done : GoodIn wsX10_setDirection (wsV RX10 45 RX10 yX10_done wsX10_done) := goodIn_app (goodIn_of _ (by decide +kernel)) ggX10_setDirection_X10_done
theorem dX10_setDirection_0 : decode cX10_setDirection 0 = .ok (.aload_n 0, 1) := by decide +kernel
theorem dX10_setDirection_1 : decode cX10_setDirection 1 = .ok (.iload_n 1, 1) := by decide +kernel
theorem dX10_setDirection_2 : decode cX10_setDirection 2 = .ok (.invokevirtual 48, 3) := by decide +kernel
theorem dX10_setDirection_5 : decode cX10_setDirection 5 = .ok (.ifCond .eq 5, 3) := by decide +kernel
theorem dX10_setDirection_8 : decode cX10_setDirection 8 = .ok (.iconst (-1), 1) := by decide +kernel
theorem dX10_setDirection_9 : decode cX10_setDirection 9 = .ok (.ireturn, 1) := by decide +kernel
theorem dX10_setDirection_10 : decode cX10_setDirection 10 = .ok (.iload_n 2, 1) := by decide +kernel
theorem dX10_setDirection_11 : decode cX10_setDirection 11 = .ok (.iconst 0, 1) := by decide +kernel
theorem dX10_setDirection_12 : decode cX10_setDirection 12 = .ok (.iconst 2, 1) := by decide +kernel
theorem dX10_setDirection_13 : decode cX10_setDirection 13 = .ok (.invokestatic 34, 3) := by decide +kernel
theorem dX10_setDirection_16 : decode cX10_setDirection 16 = .ok (.ifCond .ne 6, 3) := by decide +kernel
theorem dX10_setDirection_19 : decode cX10_setDirection 19 = .ok (.bipush (-2), 2) := by decide +kernel
theorem dX10_setDirection_21 : decode cX10_setDirection 21 = .ok (.ireturn, 1) := by decide +kernel
theorem dX10_setDirection_22 : decode cX10_setDirection 22 = .ok (.aload_n 0, 1) := by decide +kernel
theorem dX10_setDirection_23 : decode cX10_setDirection 23 = .ok (.invokevirtual 38, 3) := by decide +kernel
theorem dX10_setDirection_26 : decode cX10_setDirection 26 = .ok (.aload_n 0, 1) := by decide +kernel
theorem dX10_setDirection_27 : decode cX10_setDirection 27 = .ok (.iload_n 1, 1) := by decide +kernel
theorem dX10_setDirection_28 : decode cX10_setDirection 28 = .ok (.iconst 0, 1) := by decide +kernel
theorem dX10_setDirection_29 : decode cX10_setDirection 29 = .ok (.invokevirtual 52, 3) := by decide +kernel
theorem dX10_setDirection_32 : decode cX10_setDirection 32 = .ok (.istore_n 3, 1) := by decide +kernel
theorem dX10_setDirection_33 : decode cX10_setDirection 33 = .ok (.aload_n 0, 1) := by decide +kernel
theorem dX10_setDirection_34 : decode cX10_setDirection 34 = .ok (.iload_n 1, 1) := by decide +kernel
theorem dX10_setDirection_35 : decode cX10_setDirection 35 = .ok (.iconst 0, 1) := by decide +kernel
theorem dX10_setDirection_36 : decode cX10_setDirection 36 = .ok (.iload_n 2, 1) := by decide +kernel
theorem dX10_setDirection_37 : decode cX10_setDirection 37 = .ok (.invokevirtual 41, 3) := by decide +kernel
theorem dX10_setDirection_40 : decode cX10_setDirection 40 = .ok (.aload_n 0, 1) := by decide +kernel
theorem dX10_setDirection_41 : decode cX10_setDirection 41 = .ok (.iload_n 3, 1) := by decide +kernel
theorem dX10_setDirection_42 : decode cX10_setDirection 42 = .ok (.invokevirtual 45, 3) := by decide +kernel
theorem dX10_setDirection_45 : decode cX10_setDirection 45 = .ok (.ireturn, 1) := by decide +kernel
set_option maxRecDepth 20000 in
theorem ggX10_addPool_X10_in : GoodIn wsX10_addPool wsX10_in := goodIn_r _ [5] (by decide +kernel) (by decide +kernel)
set_option maxRecDepth 20000 in
theorem gX10_addPool_X10_in : GoodIn wsX10_addPool (va_wsS RX10 34 yX10_in wsX10_in) := goodIn_app (goodIn_of _ (by decide +kernel)) ggX10_addPool_X10_in
set_option maxRecDepth 20000 in
theorem ggX10_addPool_X10_begin : GoodIn wsX10_addPool wsX10_begin := goodIn_r _ [9, 10, 1, 21, 22, 23, 24, 25, 26, 27, 28, 29, 30] (by decide +kernel) (by decide +kernel)
set_option maxRecDepth 20000 in
theorem gX10_addPool_X10_begin : GoodIn wsX10_addPool (wsV RX10 38 RX10 yX10_begin wsX10_begin) := goodIn_app (goodIn_of _ (by decide +kernel)) ggX10_addPool_X10_begin
set_option maxRecDepth 20000 in
theorem ggX10_addPool_X10_done : GoodIn wsX10_addPool wsX10_done := goodIn_r _ [14, 15, 16, 17, 4, 18, 19, 20, 10, 21, 22, 23, 24, 25, 26, 27, 28, 29, 30] (by decide +kernel) (by decide +kernel)
set_option maxRecDepth 20000 in
theorem gX10_addPool_X10_done : GoodIn wsX10_addPool (wsV RX10 45 RX10 yX10_done wsX10_done) := goodIn_app (goodIn_of _ (by decide +kernel)) ggX10_addPool_X10_done
