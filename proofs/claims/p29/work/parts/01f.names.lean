theorem dX9_passesIn_5 : decode cX9_passesIn 5 = .ok (.invokevirtual 175, 3) := by decide +kernel
theorem dX9_passesIn_8 : decode cX9_passesIn 8 = .ok (.astore_n 2, 1) := by decide +kernel
theorem dX9_passesIn_9 : decode cX9_passesIn 9 = .ok (.aload_n 2, 1) := by decide +kernel
theorem dX9_passesIn_10 : decode cX9_passesIn 10 = .ok (.ifnonnull 5, 3) := by decide +kernel
theorem dX9_passesIn_13 : decode cX9_passesIn 13 = .ok (.iconst (-1), 1) := by decide +kernel
theorem dX9_passesIn_14 : decode cX9_passesIn 14 = .ok (.ireturn, 1) := by decide +kernel
theorem dX9_passesIn_15 : decode cX9_passesIn 15 = .ok (.aload_n 2, 1) := by decide +kernel
theorem dX9_passesIn_16 : decode cX9_passesIn 16 = .ok (.invokevirtual 196, 3) := by decide +kernel
theorem dX9_passesIn_19 : decode cX9_passesIn 19 = .ok (.ifCond .ne 14, 3) := by decide +kernel
theorem dX9_passesIn_22 : decode cX9_passesIn 22 = .ok (.aload_n 2, 1) := by decide +kernel
theorem dX9_passesIn_23 : decode cX9_passesIn 23 = .ok (.getfield 179, 3) := by decide +kernel
theorem dX9_passesIn_26 : decode cX9_passesIn 26 = .ok (.iconst 2, 1) := by decide +kernel
theorem dX9_passesIn_27 : decode cX9_passesIn 27 = .ok (.if_icmp .eq 6, 3) := by decide +kernel
theorem dX9_passesIn_30 : decode cX9_passesIn 30 = .ok (.bipush (-4), 2) := by decide +kernel
theorem dX9_passesIn_32 : decode cX9_passesIn 32 = .ok (.ireturn, 1) := by decide +kernel
theorem dX9_passesIn_33 : decode cX9_passesIn 33 = .ok (.aload_n 0, 1) := by decide +kernel
theorem dX9_passesIn_34 : decode cX9_passesIn 34 = .ok (.getfield 16, 3) := by decide +kernel
theorem dX9_passesIn_37 : decode cX9_passesIn 37 = .ok (.aload_n 0, 1) := by decide +kernel
theorem dX9_passesIn_38 : decode cX9_passesIn 38 = .ok (.getfield 10, 3) := by decide +kernel
theorem dX9_passesIn_41 : decode cX9_passesIn 41 = .ok (.invokevirtual 125, 3) := by decide +kernel
theorem dX9_passesIn_44 : decode cX9_passesIn 44 = .ok (.aload_n 0, 1) := by decide +kernel
theorem dX9_passesIn_45 : decode cX9_passesIn 45 = .ok (.getfield 16, 3) := by decide +kernel
theorem dX9_passesIn_48 : decode cX9_passesIn 48 = .ok (.iload_n 1, 1) := by decide +kernel
theorem dX9_passesIn_49 : decode cX9_passesIn 49 = .ok (.invokevirtual 251, 3) := by decide +kernel
theorem dX9_passesIn_52 : decode cX9_passesIn 52 = .ok (.ireturn, 1) := by decide +kernel
set_option maxRecDepth 20000 in
theorem ggX9_count_X8_peopleWhoAre : GoodIn wsX9_count wsX8_peopleWhoAre := goodIn_r _ [14, 15, 16, 17, 48, 49, 50, 51, 52, 53, 54, 55, 56, 57, 58, 69, 70, 71, 72, 73, 74, 75] (by decide +kernel) (by decide +kernel)
set_option maxRecDepth 20000 in
theorem gX9_count_X8_peopleWhoAre : GoodIn wsX9_count (wsV RX9 257 RX8 yX8_peopleWhoAre wsX8_peopleWhoAre) := goodIn_app (goodIn_of _ (by decide +kernel)) ggX9_count_X8_peopleWhoAre
set_option maxRecDepth 20000 in
theorem ggX9_count_X8_allRefusals : GoodIn wsX9_count wsX8_allRefusals := goodIn_r _ [21, 22, 23, 24, 48, 49, 50, 51, 52, 53, 54, 55, 56, 57, 58, 76, 77, 78, 79, 80, 81, 82, 83, 84, 85, 86, 87, 88, 89, 90] (by decide +kernel) (by decide +kernel)
set_option maxRecDepth 20000 in
theorem gX9_count_X8_allRefusals : GoodIn wsX9_count (wsV RX9 260 RX8 yX8_allRefusals wsX8_allRefusals) := goodIn_app (goodIn_of _ (by decide +kernel)) ggX9_count_X8_allRefusals
set_option maxRecDepth 20000 in
theorem ggX9_count_X8_allFares : GoodIn wsX9_count wsX8_allFares := goodIn_r _ [28, 29, 30, 31, 48, 49, 50, 51, 52, 53, 54, 55, 56, 57, 58, 91, 92, 93, 94, 95] (by decide +kernel) (by decide +kernel)
set_option maxRecDepth 20000 in
theorem gX9_count_X8_allFares : GoodIn wsX9_count (wsV RX9 263 RX8 yX8_allFares wsX8_allFares) := goodIn_app (goodIn_of _ (by decide +kernel)) ggX9_count_X8_allFares
set_option maxRecDepth 20000 in
theorem ggX9_count_X8_busiestGate : GoodIn wsX9_count wsX8_busiestGate := goodIn_r _ [35, 22, 23, 36, 37, 38, 39, 40, 41, 42, 43, 48, 49, 50, 51, 52, 53, 54, 55, 56, 57, 58, 76, 77, 78, 79, 80, 81, 82, 83, 84, 85, 86, 87, 88, 89, 90, 96, 97] (by decide +kernel) (by decide +kernel)
set_option maxRecDepth 20000 in
theorem gX9_count_X8_busiestGate : GoodIn wsX9_count (wsV RX9 269 RX8 yX8_busiestGate wsX8_busiestGate) := goodIn_app (goodIn_of _ (by decide +kernel)) ggX9_count_X8_busiestGate
theorem dX9_count_0 : decode cX9_count 0 = .ok (.iload_n 1, 1) := by decide +kernel
theorem dX9_count_1 : decode cX9_count 1 = .ok (.tableswitch 184 0 12 #[67, 75, 83, 91, 109, 118, 127, 136, 144, 152, 160, 168, 176], 67) := by decide +kernel
theorem dX9_count_68 : decode cX9_count 68 = .ok (.aload_n 0, 1) := by decide +kernel
theorem dX9_count_69 : decode cX9_count 69 = .ok (.getfield 10, 3) := by decide +kernel
theorem dX9_count_72 : decode cX9_count 72 = .ok (.getfield 200, 3) := by decide +kernel
theorem dX9_count_75 : decode cX9_count 75 = .ok (.ireturn, 1) := by decide +kernel
theorem dX9_count_76 : decode cX9_count 76 = .ok (.aload_n 0, 1) := by decide +kernel
theorem dX9_count_77 : decode cX9_count 77 = .ok (.getfield 10, 3) := by decide +kernel
theorem dX9_count_80 : decode cX9_count 80 = .ok (.getfield 102, 3) := by decide +kernel
theorem dX9_count_83 : decode cX9_count 83 = .ok (.ireturn, 1) := by decide +kernel
theorem dX9_count_84 : decode cX9_count 84 = .ok (.aload_n 0, 1) := by decide +kernel
theorem dX9_count_85 : decode cX9_count 85 = .ok (.getfield 10, 3) := by decide +kernel
theorem dX9_count_88 : decode cX9_count 88 = .ok (.getfield 254, 3) := by decide +kernel
theorem dX9_count_91 : decode cX9_count 91 = .ok (.ireturn, 1) := by decide +kernel
theorem dX9_count_92 : decode cX9_count 92 = .ok (.aload_n 0, 1) := by decide +kernel
theorem dX9_count_93 : decode cX9_count 93 = .ok (.getfield 10, 3) := by decide +kernel
theorem dX9_count_96 : decode cX9_count 96 = .ok (.iconst 3, 1) := by decide +kernel
theorem dX9_count_97 : decode cX9_count 97 = .ok (.invokevirtual 257, 3) := by decide +kernel
theorem dX9_count_100 : decode cX9_count 100 = .ok (.aload_n 0, 1) := by decide +kernel
theorem dX9_count_101 : decode cX9_count 101 = .ok (.getfield 10, 3) := by decide +kernel
theorem dX9_count_104 : decode cX9_count 104 = .ok (.iconst 4, 1) := by decide +kernel
theorem dX9_count_105 : decode cX9_count 105 = .ok (.invokevirtual 257, 3) := by decide +kernel
theorem dX9_count_108 : decode cX9_count 108 = .ok (.iadd, 1) := by decide +kernel
theorem dX9_count_109 : decode cX9_count 109 = .ok (.ireturn, 1) := by decide +kernel
theorem dX9_count_110 : decode cX9_count 110 = .ok (.aload_n 0, 1) := by decide +kernel
theorem dX9_count_111 : decode cX9_count 111 = .ok (.getfield 10, 3) := by decide +kernel
theorem dX9_count_114 : decode cX9_count 114 = .ok (.iconst 1, 1) := by decide +kernel
theorem dX9_count_115 : decode cX9_count 115 = .ok (.invokevirtual 257, 3) := by decide +kernel
theorem dX9_count_118 : decode cX9_count 118 = .ok (.ireturn, 1) := by decide +kernel
theorem dX9_count_119 : decode cX9_count 119 = .ok (.aload_n 0, 1) := by decide +kernel
theorem dX9_count_120 : decode cX9_count 120 = .ok (.getfield 10, 3) := by decide +kernel
theorem dX9_count_123 : decode cX9_count 123 = .ok (.iconst 2, 1) := by decide +kernel
theorem dX9_count_124 : decode cX9_count 124 = .ok (.invokevirtual 257, 3) := by decide +kernel
theorem dX9_count_127 : decode cX9_count 127 = .ok (.ireturn, 1) := by decide +kernel
theorem dX9_count_128 : decode cX9_count 128 = .ok (.aload_n 0, 1) := by decide +kernel
theorem dX9_count_129 : decode cX9_count 129 = .ok (.getfield 10, 3) := by decide +kernel
theorem dX9_count_132 : decode cX9_count 132 = .ok (.iconst 5, 1) := by decide +kernel
theorem dX9_count_133 : decode cX9_count 133 = .ok (.invokevirtual 257, 3) := by decide +kernel
theorem dX9_count_136 : decode cX9_count 136 = .ok (.ireturn, 1) := by decide +kernel
theorem dX9_count_137 : decode cX9_count 137 = .ok (.aload_n 0, 1) := by decide +kernel
theorem dX9_count_138 : decode cX9_count 138 = .ok (.getfield 10, 3) := by decide +kernel
theorem dX9_count_141 : decode cX9_count 141 = .ok (.invokevirtual 260, 3) := by decide +kernel
theorem dX9_count_144 : decode cX9_count 144 = .ok (.ireturn, 1) := by decide +kernel
theorem dX9_count_145 : decode cX9_count 145 = .ok (.aload_n 0, 1) := by decide +kernel
theorem dX9_count_146 : decode cX9_count 146 = .ok (.getfield 10, 3) := by decide +kernel
theorem dX9_count_149 : decode cX9_count 149 = .ok (.invokevirtual 263, 3) := by decide +kernel
theorem dX9_count_152 : decode cX9_count 152 = .ok (.ireturn, 1) := by decide +kernel
theorem dX9_count_153 : decode cX9_count 153 = .ok (.aload_n 0, 1) := by decide +kernel
theorem dX9_count_154 : decode cX9_count 154 = .ok (.getfield 10, 3) := by decide +kernel
theorem dX9_count_157 : decode cX9_count 157 = .ok (.getfield 266, 3) := by decide +kernel
theorem dX9_count_160 : decode cX9_count 160 = .ok (.ireturn, 1) := by decide +kernel
theorem dX9_count_161 : decode cX9_count 161 = .ok (.aload_n 0, 1) := by decide +kernel
theorem dX9_count_162 : decode cX9_count 162 = .ok (.getfield 10, 3) := by decide +kernel
theorem dX9_count_165 : decode cX9_count 165 = .ok (.invokevirtual 269, 3) := by decide +kernel
theorem dX9_count_168 : decode cX9_count 168 = .ok (.ireturn, 1) := by decide +kernel
theorem dX9_count_169 : decode cX9_count 169 = .ok (.aload_n 0, 1) := by decide +kernel
theorem dX9_count_170 : decode cX9_count 170 = .ok (.getfield 22, 3) := by decide +kernel
theorem dX9_count_173 : decode cX9_count 173 = .ok (.getfield 118, 3) := by decide +kernel
theorem dX9_count_176 : decode cX9_count 176 = .ok (.ireturn, 1) := by decide +kernel
theorem dX9_count_177 : decode cX9_count 177 = .ok (.aload_n 0, 1) := by decide +kernel
theorem dX9_count_178 : decode cX9_count 178 = .ok (.getfield 29, 3) := by decide +kernel
theorem dX9_count_181 : decode cX9_count 181 = .ok (.getfield 272, 3) := by decide +kernel
theorem dX9_count_184 : decode cX9_count 184 = .ok (.ireturn, 1) := by decide +kernel
theorem dX9_count_185 : decode cX9_count 185 = .ok (.bipush (-2), 2) := by decide +kernel
theorem dX9_count_187 : decode cX9_count 187 = .ok (.ireturn, 1) := by decide +kernel
set_option maxRecDepth 20000 in
theorem ggX9_recorded_X2_keep : GoodIn wsX9_recorded wsX2_keep := goodIn_r _ [6, 7, 8, 9, 10, 11, 5, 12, 13, 14, 15, 16, 21, 22, 23] (by decide +kernel) (by decide +kernel)
set_option maxRecDepth 20000 in
theorem gX9_recorded_X2_keep : GoodIn wsX9_recorded (wsV RX9 85 RX2 yX2_keep wsX2_keep) := goodIn_app (goodIn_of _ (by decide +kernel)) ggX9_recorded_X2_keep
theorem dX9_recorded_0 : decode cX9_recorded 0 = .ok (.iload_n 1, 1) := by decide +kernel
theorem dX9_recorded_1 : decode cX9_recorded 1 = .ok (.ifCond .lt 10, 3) := by decide +kernel
theorem dX9_recorded_4 : decode cX9_recorded 4 = .ok (.aload_n 0, 1) := by decide +kernel
theorem dX9_recorded_5 : decode cX9_recorded 5 = .ok (.getfield 22, 3) := by decide +kernel
theorem dX9_recorded_8 : decode cX9_recorded 8 = .ok (.invokevirtual 85, 3) := by decide +kernel
theorem dX9_recorded_11 : decode cX9_recorded 11 = .ok (.iload_n 1, 1) := by decide +kernel
theorem dX9_recorded_12 : decode cX9_recorded 12 = .ok (.ireturn, 1) := by decide +kernel
set_option maxRecDepth 20000 in
theorem ggX9_carryOut_X8_comeIn : GoodIn wsX9_carryOut wsX8_comeIn := goodIn_r _ [11, 12, 13, 14, 15, 16, 17, 18, 10, 19, 20, 21, 22, 23, 24, 25, 26, 27, 28, 29, 30, 31, 32, 33, 34, 35, 36, 37, 38, 39, 40, 41, 42, 43, 44, 45, 46, 47, 48, 49, 50, 203, 204, 205, 206, 207, 208, 209, 210, 211, 212, 213, 214, 215, 216, 217, 218, 219, 220, 221, 222, 223, 224, 225, 226, 227, 228, 229, 230, 231, 232, 233, 234, 235, 236, 237] (by decide +kernel) (by decide +kernel)
set_option maxRecDepth 20000 in
theorem gX9_carryOut_X8_comeIn : GoodIn wsX9_carryOut (wsV RX9 65 RX8 yX8_comeIn wsX8_comeIn) := goodIn_app (goodIn_of _ (by decide +kernel)) ggX9_carryOut_X8_comeIn
set_option maxRecDepth 20000 in
theorem ggX9_carryOut_X8_goOut : GoodIn wsX9_carryOut wsX8_goOut := goodIn_r _ [54, 55, 14, 56, 57, 16, 17, 18, 10, 19, 20, 21, 58, 59, 60, 61, 12, 13, 36, 37, 38, 31, 39, 40, 41, 42, 43, 44, 45, 46, 47, 48, 49, 50, 229, 230, 231, 232, 233, 234, 235, 203, 204, 205, 206, 207, 208, 209, 210, 211, 212, 213, 214, 215, 216, 217, 218, 219, 220, 221, 222, 223, 224, 225, 226, 227, 228, 236, 237] (by decide +kernel) (by decide +kernel)
set_option maxRecDepth 20000 in
theorem gX9_carryOut_X8_goOut : GoodIn wsX9_carryOut (wsV RX9 69 RX8 yX8_goOut wsX8_goOut) := goodIn_app (goodIn_of _ (by decide +kernel)) ggX9_carryOut_X8_goOut
set_option maxRecDepth 20000 in
theorem ggX9_carryOut_X8_letTicksGo : GoodIn wsX9_carryOut wsX8_letTicksGo := goodIn_r _ [65, 20, 21, 14, 66, 67, 68, 69, 70, 71, 10, 72, 73, 74, 75, 76, 77, 78, 79, 80, 81, 82, 83, 84, 85, 55, 86, 87, 88, 89, 90, 91, 92, 15, 56, 93, 94, 95, 96, 47, 97, 49, 50, 58, 59, 60, 61, 12, 13, 98, 99, 100, 101, 102, 103, 104, 105, 106, 107, 108, 109, 110, 111, 112, 113, 114, 115, 116, 22, 23, 24, 25, 26, 27, 117, 118, 119, 120, 121, 122, 123, 124, 125, 31, 126, 41, 40, 35, 127, 128, 129, 130, 131, 132, 133, 134, 135, 136, 137, 138, 139, 140, 141, 142, 143, 144, 145, 146, 147, 148, 149, 150, 151, 152, 153, 154, 155, 156, 157, 158, 159, 160, 161, 162, 163, 164, 165, 166, 167, 168, 169, 170, 171, 172, 173, 174, 175, 176, 177, 178, 179, 180, 181, 182, 183, 184, 185, 186, 187, 203, 204, 205, 206, 207, 208, 209, 210, 211, 212, 213, 214, 215, 216, 217, 218, 219, 220, 221, 222, 223, 224, 225, 226, 227, 228, 229, 230, 231, 232, 233, 234, 235, 236, 237, 238, 239, 240, 241, 242, 243, 244, 245, 246, 247, 248, 249, 250, 251] (by decide +kernel) (by decide +kernel)
set_option maxRecDepth 20000 in
theorem gX9_carryOut_X8_letTicksGo : GoodIn wsX9_carryOut (wsV RX9 91 RX8 yX8_letTicksGo wsX8_letTicksGo) := goodIn_app (goodIn_of _ (by decide +kernel)) ggX9_carryOut_X8_letTicksGo
set_option maxRecDepth 20000 in
theorem ggX9_carryOut_X8_tellPinch : GoodIn wsX9_carryOut wsX8_tellPinch := goodIn_r _ [191, 73, 162, 16, 17, 18, 10, 19, 20, 21, 214, 215, 216, 217, 218, 219, 220, 221, 222, 223, 224, 225, 226, 227, 228, 203, 204, 205, 206, 207, 208, 209, 210, 211, 212, 213] (by decide +kernel) (by decide +kernel)
set_option maxRecDepth 20000 in
theorem gX9_carryOut_X8_tellPinch : GoodIn wsX9_carryOut (wsV RX9 75 RX8 yX8_tellPinch wsX8_tellPinch) := goodIn_app (goodIn_of _ (by decide +kernel)) ggX9_carryOut_X8_tellPinch
theorem dX9_carryOut_0 : decode cX9_carryOut 0 = .ok (.aload_n 0, 1) := by decide +kernel
theorem dX9_carryOut_1 : decode cX9_carryOut 1 = .ok (.getfield 29, 3) := by decide +kernel
theorem dX9_carryOut_4 : decode cX9_carryOut 4 = .ok (.getfield 273, 3) := by decide +kernel
theorem dX9_carryOut_7 : decode cX9_carryOut 7 = .ok (.lookupswitch 99 #[(105, 33), (111, 62), (116, 84)], 33) := by decide +kernel
theorem dX9_carryOut_40 : decode cX9_carryOut 40 = .ok (.aload_n 0, 1) := by decide +kernel
theorem dX9_carryOut_41 : decode cX9_carryOut 41 = .ok (.getfield 10, 3) := by decide +kernel
theorem dX9_carryOut_44 : decode cX9_carryOut 44 = .ok (.aload_n 0, 1) := by decide +kernel
theorem dX9_carryOut_45 : decode cX9_carryOut 45 = .ok (.getfield 29, 3) := by decide +kernel
theorem dX9_carryOut_48 : decode cX9_carryOut 48 = .ok (.getfield 276, 3) := by decide +kernel
theorem dX9_carryOut_51 : decode cX9_carryOut 51 = .ok (.aload_n 0, 1) := by decide +kernel
theorem dX9_carryOut_52 : decode cX9_carryOut 52 = .ok (.getfield 29, 3) := by decide +kernel
theorem dX9_carryOut_55 : decode cX9_carryOut 55 = .ok (.getfield 277, 3) := by decide +kernel
theorem dX9_carryOut_58 : decode cX9_carryOut 58 = .ok (.aload_n 0, 1) := by decide +kernel
theorem dX9_carryOut_59 : decode cX9_carryOut 59 = .ok (.getfield 29, 3) := by decide +kernel
theorem dX9_carryOut_62 : decode cX9_carryOut 62 = .ok (.getfield 280, 3) := by decide +kernel
theorem dX9_carryOut_65 : decode cX9_carryOut 65 = .ok (.invokevirtual 65, 3) := by decide +kernel
theorem dX9_carryOut_68 : decode cX9_carryOut 68 = .ok (.ireturn, 1) := by decide +kernel
theorem dX9_carryOut_69 : decode cX9_carryOut 69 = .ok (.aload_n 0, 1) := by decide +kernel
theorem dX9_carryOut_70 : decode cX9_carryOut 70 = .ok (.getfield 10, 3) := by decide +kernel
theorem dX9_carryOut_73 : decode cX9_carryOut 73 = .ok (.aload_n 0, 1) := by decide +kernel
theorem dX9_carryOut_74 : decode cX9_carryOut 74 = .ok (.getfield 29, 3) := by decide +kernel
theorem dX9_carryOut_77 : decode cX9_carryOut 77 = .ok (.getfield 276, 3) := by decide +kernel
theorem dX9_carryOut_80 : decode cX9_carryOut 80 = .ok (.aload_n 0, 1) := by decide +kernel
theorem dX9_carryOut_81 : decode cX9_carryOut 81 = .ok (.getfield 29, 3) := by decide +kernel
theorem dX9_carryOut_84 : decode cX9_carryOut 84 = .ok (.getfield 277, 3) := by decide +kernel
theorem dX9_carryOut_87 : decode cX9_carryOut 87 = .ok (.invokevirtual 69, 3) := by decide +kernel
theorem dX9_carryOut_90 : decode cX9_carryOut 90 = .ok (.ireturn, 1) := by decide +kernel
theorem dX9_carryOut_91 : decode cX9_carryOut 91 = .ok (.aload_n 0, 1) := by decide +kernel
theorem dX9_carryOut_92 : decode cX9_carryOut 92 = .ok (.getfield 10, 3) := by decide +kernel
theorem dX9_carryOut_95 : decode cX9_carryOut 95 = .ok (.aload_n 0, 1) := by decide +kernel
theorem dX9_carryOut_96 : decode cX9_carryOut 96 = .ok (.getfield 29, 3) := by decide +kernel
theorem dX9_carryOut_99 : decode cX9_carryOut 99 = .ok (.getfield 277, 3) := by decide +kernel
theorem dX9_carryOut_102 : decode cX9_carryOut 102 = .ok (.invokevirtual 91, 3) := by decide +kernel
theorem dX9_carryOut_105 : decode cX9_carryOut 105 = .ok (.ireturn, 1) := by decide +kernel
theorem dX9_carryOut_106 : decode cX9_carryOut 106 = .ok (.aload_n 0, 1) := by decide +kernel
theorem dX9_carryOut_107 : decode cX9_carryOut 107 = .ok (.getfield 10, 3) := by decide +kernel
theorem dX9_carryOut_110 : decode cX9_carryOut 110 = .ok (.aload_n 0, 1) := by decide +kernel
theorem dX9_carryOut_111 : decode cX9_carryOut 111 = .ok (.getfield 29, 3) := by decide +kernel
theorem dX9_carryOut_114 : decode cX9_carryOut 114 = .ok (.getfield 276, 3) := by decide +kernel
theorem dX9_carryOut_117 : decode cX9_carryOut 117 = .ok (.invokevirtual 75, 3) := by decide +kernel
theorem dX9_carryOut_120 : decode cX9_carryOut 120 = .ok (.ireturn, 1) := by decide +kernel
theorem dX9_isError_0 : decode cX9_isError 0 = .ok (.iload_n 0, 1) := by decide +kernel
theorem dX9_isError_1 : decode cX9_isError 1 = .ok (.ifCond .ge 13, 3) := by decide +kernel
theorem dX9_isError_4 : decode cX9_isError 4 = .ok (.iload_n 0, 1) := by decide +kernel
theorem dX9_isError_5 : decode cX9_isError 5 = .ok (.bipush (-5), 2) := by decide +kernel
theorem dX9_isError_7 : decode cX9_isError 7 = .ok (.if_icmp .eq 7, 3) := by decide +kernel
theorem dX9_isError_10 : decode cX9_isError 10 = .ok (.iconst 1, 1) := by decide +kernel
theorem dX9_isError_11 : decode cX9_isError 11 = .ok (.goto 4, 3) := by decide +kernel
theorem dX9_isError_14 : decode cX9_isError 14 = .ok (.iconst 0, 1) := by decide +kernel
theorem dX9_isError_15 : decode cX9_isError 15 = .ok (.ireturn, 1) := by decide +kernel
theorem dX9_isBetween_0 : decode cX9_isBetween 0 = .ok (.iload_n 0, 1) := by decide +kernel
theorem dX9_isBetween_1 : decode cX9_isBetween 1 = .ok (.iload_n 1, 1) := by decide +kernel
theorem dX9_isBetween_2 : decode cX9_isBetween 2 = .ok (.if_icmp .gt 12, 3) := by decide +kernel
theorem dX9_isBetween_5 : decode cX9_isBetween 5 = .ok (.iload_n 1, 1) := by decide +kernel
theorem dX9_isBetween_6 : decode cX9_isBetween 6 = .ok (.iload_n 2, 1) := by decide +kernel
theorem dX9_isBetween_7 : decode cX9_isBetween 7 = .ok (.if_icmp .gt 7, 3) := by decide +kernel
theorem dX9_isBetween_10 : decode cX9_isBetween 10 = .ok (.iconst 1, 1) := by decide +kernel
theorem dX9_isBetween_11 : decode cX9_isBetween 11 = .ok (.goto 4, 3) := by decide +kernel
theorem dX9_isBetween_14 : decode cX9_isBetween 14 = .ok (.iconst 0, 1) := by decide +kernel
theorem dX9_isBetween_15 : decode cX9_isBetween 15 = .ok (.ireturn, 1) := by decide +kernel
theorem dJ9_floorMod_7cf53_0 : decode cJ9_floorMod_7cf53 0 = .ok (.iload_n 0, 1) := by decide +kernel
theorem dJ9_floorMod_7cf53_1 : decode cJ9_floorMod_7cf53 1 = .ok (.iload_n 1, 1) := by decide +kernel
theorem dJ9_floorMod_7cf53_2 : decode cJ9_floorMod_7cf53 2 = .ok (.irem, 1) := by decide +kernel
theorem dJ9_floorMod_7cf53_3 : decode cJ9_floorMod_7cf53 3 = .ok (.istore_n 2, 1) := by decide +kernel
theorem dJ9_floorMod_7cf53_4 : decode cJ9_floorMod_7cf53 4 = .ok (.iload_n 0, 1) := by decide +kernel
theorem dJ9_floorMod_7cf53_5 : decode cJ9_floorMod_7cf53 5 = .ok (.iload_n 1, 1) := by decide +kernel
theorem dJ9_floorMod_7cf53_6 : decode cJ9_floorMod_7cf53 6 = .ok (.ixor, 1) := by decide +kernel
theorem dJ9_floorMod_7cf53_7 : decode cJ9_floorMod_7cf53 7 = .ok (.ifCond .ge 11, 3) := by decide +kernel
theorem dJ9_floorMod_7cf53_10 : decode cJ9_floorMod_7cf53 10 = .ok (.iload_n 2, 1) := by decide +kernel
theorem dJ9_floorMod_7cf53_11 : decode cJ9_floorMod_7cf53 11 = .ok (.ifCond .eq 7, 3) := by decide +kernel
theorem dJ9_floorMod_7cf53_14 : decode cJ9_floorMod_7cf53 14 = .ok (.iload_n 2, 1) := by decide +kernel
theorem dJ9_floorMod_7cf53_15 : decode cJ9_floorMod_7cf53 15 = .ok (.iload_n 1, 1) := by decide +kernel
theorem dJ9_floorMod_7cf53_16 : decode cJ9_floorMod_7cf53 16 = .ok (.iadd, 1) := by decide +kernel
theorem dJ9_floorMod_7cf53_17 : decode cJ9_floorMod_7cf53 17 = .ok (.ireturn, 1) := by decide +kernel
theorem dJ9_floorMod_7cf53_18 : decode cJ9_floorMod_7cf53 18 = .ok (.iload_n 2, 1) := by decide +kernel
theorem dJ9_floorMod_7cf53_19 : decode cJ9_floorMod_7cf53 19 = .ok (.ireturn, 1) := by decide +kernel
theorem dJ9_max_7cf53_0 : decode cJ9_max_7cf53 0 = .ok (.iload_n 0, 1) := by decide +kernel
theorem dJ9_max_7cf53_1 : decode cJ9_max_7cf53 1 = .ok (.iload_n 1, 1) := by decide +kernel
theorem dJ9_max_7cf53_2 : decode cJ9_max_7cf53 2 = .ok (.if_icmp .lt 7, 3) := by decide +kernel
theorem dJ9_max_7cf53_5 : decode cJ9_max_7cf53 5 = .ok (.iload_n 0, 1) := by decide +kernel
theorem dJ9_max_7cf53_6 : decode cJ9_max_7cf53 6 = .ok (.goto 4, 3) := by decide +kernel
theorem dJ9_max_7cf53_9 : decode cJ9_max_7cf53 9 = .ok (.iload_n 1, 1) := by decide +kernel
theorem dJ9_max_7cf53_10 : decode cJ9_max_7cf53 10 = .ok (.ireturn, 1) := by decide +kernel
theorem dJ9_min_7cf53_0 : decode cJ9_min_7cf53 0 = .ok (.iload_n 0, 1) := by decide +kernel
theorem dJ9_min_7cf53_1 : decode cJ9_min_7cf53 1 = .ok (.iload_n 1, 1) := by decide +kernel
theorem dJ9_min_7cf53_2 : decode cJ9_min_7cf53 2 = .ok (.if_icmp .gt 7, 3) := by decide +kernel
theorem dJ9_min_7cf53_5 : decode cJ9_min_7cf53 5 = .ok (.iload_n 0, 1) := by decide +kernel
theorem dJ9_min_7cf53_6 : decode cJ9_min_7cf53 6 = .ok (.goto 4, 3) := by decide +kernel
theorem dJ9_min_7cf53_9 : decode cJ9_min_7cf53 9 = .ok (.iload_n 1, 1) := by decide +kernel
theorem dJ9_min_7cf53_10 : decode cJ9_min_7cf53 10 = .ok (.ireturn, 1) := by decide +kernel
theorem dL_cell_0 : decode cL_cell 0 = .ok (.iload_n 1, 1) := by decide +kernel
theorem dL_cell_1 : decode cL_cell 1 = .ok (.aload_n 0, 1) := by decide +kernel
theorem dL_cell_2 : decode cL_cell 2 = .ok (.arraylength, 1) := by decide +kernel
theorem dL_cell_3 : decode cL_cell 3 = .ok (.if_icmp .ge 9, 3) := by decide +kernel
theorem dL_cell_6 : decode cL_cell 6 = .ok (.aload_n 0, 1) := by decide +kernel
theorem dL_cell_7 : decode cL_cell 7 = .ok (.iload_n 1, 1) := by decide +kernel
theorem dL_cell_8 : decode cL_cell 8 = .ok (.iaload, 1) := by decide +kernel
theorem dL_cell_9 : decode cL_cell 9 = .ok (.goto 11, 3) := by decide +kernel
theorem dL_cell_12 : decode cL_cell 12 = .ok (.ldc 7, 2) := by decide +kernel
theorem dL_cell_14 : decode cL_cell 14 = .ok (.iload_n 1, 1) := by decide +kernel
theorem dL_cell_15 : decode cL_cell 15 = .ok (.imul, 1) := by decide +kernel
theorem dL_cell_16 : decode cL_cell 16 = .ok (.sipush 8209, 3) := by decide +kernel
theorem dL_cell_19 : decode cL_cell 19 = .ok (.iadd, 1) := by decide +kernel
theorem dL_cell_20 : decode cL_cell 20 = .ok (.ireturn, 1) := by decide +kernel
theorem dL_low_0 : decode cL_low 0 = .ok (.iload_n 0, 1) := by decide +kernel
theorem dL_low_1 : decode cL_low 1 = .ok (.ldc 8, 2) := by decide +kernel
theorem dL_low_3 : decode cL_low 3 = .ok (.iand, 1) := by decide +kernel
theorem dL_low_4 : decode cL_low 4 = .ok (.iload_n 1, 1) := by decide +kernel
theorem dL_low_5 : decode cL_low 5 = .ok (.irem, 1) := by decide +kernel
theorem dL_low_6 : decode cL_low 6 = .ok (.ireturn, 1) := by decide +kernel
theorem dL_people_0 : decode cL_people 0 = .ok (.bipush 6, 2) := by decide +kernel
theorem dL_people_2 : decode cL_people 2 = .ok (.newarray .int, 2) := by decide +kernel
theorem dL_people_4 : decode cL_people 4 = .ok (.astore_n 1, 1) := by decide +kernel
theorem dL_people_5 : decode cL_people 5 = .ok (.iconst 0, 1) := by decide +kernel
theorem dL_people_6 : decode cL_people 6 = .ok (.istore_n 2, 1) := by decide +kernel
theorem dL_people_7 : decode cL_people 7 = .ok (.iconst 0, 1) := by decide +kernel
theorem dL_people_8 : decode cL_people 8 = .ok (.istore_n 3, 1) := by decide +kernel
theorem dL_people_9 : decode cL_people 9 = .ok (.iconst 0, 1) := by decide +kernel
theorem dL_people_10 : decode cL_people 10 = .ok (.istore 4, 2) := by decide +kernel
theorem dL_people_12 : decode cL_people 12 = .ok (.iconst 0, 1) := by decide +kernel
theorem dL_people_13 : decode cL_people 13 = .ok (.istore 5, 2) := by decide +kernel
theorem dL_people_15 : decode cL_people 15 = .ok (.iload 5, 2) := by decide +kernel
theorem dL_people_17 : decode cL_people 17 = .ok (.aload_n 0, 1) := by decide +kernel
theorem dL_people_18 : decode cL_people 18 = .ok (.iconst 2, 1) := by decide +kernel
theorem dL_people_19 : decode cL_people 19 = .ok (.invokevirtual 9, 3) := by decide +kernel
theorem dL_people_22 : decode cL_people 22 = .ok (.if_icmp .ge 168, 3) := by decide +kernel
theorem dL_people_25 : decode cL_people 25 = .ok (.aload_n 0, 1) := by decide +kernel
theorem dL_people_26 : decode cL_people 26 = .ok (.iload 5, 2) := by decide +kernel
theorem dL_people_28 : decode cL_people 28 = .ok (.iconst 0, 1) := by decide +kernel
theorem dL_people_29 : decode cL_people 29 = .ok (.invokevirtual 15, 3) := by decide +kernel
theorem dL_people_32 : decode cL_people 32 = .ok (.istore 6, 2) := by decide +kernel
theorem dL_people_34 : decode cL_people 34 = .ok (.aload_n 0, 1) := by decide +kernel
theorem dL_people_35 : decode cL_people 35 = .ok (.iload 5, 2) := by decide +kernel
theorem dL_people_37 : decode cL_people 37 = .ok (.iconst 3, 1) := by decide +kernel
theorem dL_people_38 : decode cL_people 38 = .ok (.invokevirtual 15, 3) := by decide +kernel
theorem dL_people_41 : decode cL_people 41 = .ok (.istore 7, 2) := by decide +kernel
theorem dL_people_43 : decode cL_people 43 = .ok (.aload_n 1, 1) := by decide +kernel
theorem dL_people_44 : decode cL_people 44 = .ok (.iload 6, 2) := by decide +kernel
theorem dL_people_46 : decode cL_people 46 = .ok (.dup2, 1) := by decide +kernel
theorem dL_people_47 : decode cL_people 47 = .ok (.iaload, 1) := by decide +kernel
theorem dL_people_48 : decode cL_people 48 = .ok (.iconst 1, 1) := by decide +kernel
theorem dL_people_49 : decode cL_people 49 = .ok (.iadd, 1) := by decide +kernel
theorem dL_people_50 : decode cL_people 50 = .ok (.iastore, 1) := by decide +kernel
theorem dL_people_51 : decode cL_people 51 = .ok (.iload 6, 2) := by decide +kernel
theorem dL_people_53 : decode cL_people 53 = .ok (.iconst 1, 1) := by decide +kernel
theorem dL_people_54 : decode cL_people 54 = .ok (.if_icmp .eq 15, 3) := by decide +kernel
theorem dL_people_57 : decode cL_people 57 = .ok (.iload 6, 2) := by decide +kernel
theorem dL_people_59 : decode cL_people 59 = .ok (.iconst 2, 1) := by decide +kernel
theorem dL_people_60 : decode cL_people 60 = .ok (.if_icmp .eq 9, 3) := by decide +kernel
theorem dL_people_63 : decode cL_people 63 = .ok (.iload 6, 2) := by decide +kernel
theorem dL_people_65 : decode cL_people 65 = .ok (.iconst 4, 1) := by decide +kernel
theorem dL_people_66 : decode cL_people 66 = .ok (.if_icmp .ne 7, 3) := by decide +kernel
theorem dL_people_69 : decode cL_people 69 = .ok (.iconst 1, 1) := by decide +kernel
theorem dL_people_70 : decode cL_people 70 = .ok (.goto 4, 3) := by decide +kernel
theorem dL_people_73 : decode cL_people 73 = .ok (.iconst 0, 1) := by decide +kernel
theorem dL_people_74 : decode cL_people 74 = .ok (.istore 8, 2) := by decide +kernel
theorem dL_people_76 : decode cL_people 76 = .ok (.iload 8, 2) := by decide +kernel
theorem dL_people_78 : decode cL_people 78 = .ok (.iload 7, 2) := by decide +kernel
theorem dL_people_80 : decode cL_people 80 = .ok (.ifCond .lt 7, 3) := by decide +kernel
theorem dL_people_83 : decode cL_people 83 = .ok (.iconst 1, 1) := by decide +kernel
theorem dL_people_84 : decode cL_people 84 = .ok (.goto 4, 3) := by decide +kernel
theorem dL_people_87 : decode cL_people 87 = .ok (.iconst 0, 1) := by decide +kernel
theorem dL_people_88 : decode cL_people 88 = .ok (.if_icmp .ne 94, 3) := by decide +kernel
theorem dL_people_91 : decode cL_people 91 = .ok (.iload 6, 2) := by decide +kernel
theorem dL_people_93 : decode cL_people 93 = .ok (.iconst 2, 1) := by decide +kernel
theorem dL_people_94 : decode cL_people 94 = .ok (.if_icmp .ne 15, 3) := by decide +kernel
theorem dL_people_97 : decode cL_people 97 = .ok (.aload_n 0, 1) := by decide +kernel
theorem dL_people_98 : decode cL_people 98 = .ok (.iload 7, 2) := by decide +kernel
theorem dL_people_100 : decode cL_people 100 = .ok (.iconst 3, 1) := by decide +kernel
theorem dL_people_101 : decode cL_people 101 = .ok (.invokevirtual 19, 3) := by decide +kernel
theorem dL_people_104 : decode cL_people 104 = .ok (.iload 5, 2) := by decide +kernel
theorem dL_people_106 : decode cL_people 106 = .ok (.if_icmp .ne 76, 3) := by decide +kernel
theorem dL_people_109 : decode cL_people 109 = .ok (.iload 6, 2) := by decide +kernel
theorem dL_people_111 : decode cL_people 111 = .ok (.ifCond .ne 7, 3) := by decide +kernel
theorem dL_people_114 : decode cL_people 114 = .ok (.iconst 1, 1) := by decide +kernel
theorem dL_people_115 : decode cL_people 115 = .ok (.goto 4, 3) := by decide +kernel
theorem dL_people_118 : decode cL_people 118 = .ok (.iconst 0, 1) := by decide +kernel
theorem dL_people_119 : decode cL_people 119 = .ok (.aload_n 0, 1) := by decide +kernel
theorem dL_people_120 : decode cL_people 120 = .ok (.iload 5, 2) := by decide +kernel
theorem dL_people_122 : decode cL_people 122 = .ok (.iconst 4, 1) := by decide +kernel
theorem dL_people_123 : decode cL_people 123 = .ok (.invokevirtual 15, 3) := by decide +kernel
theorem dL_people_126 : decode cL_people 126 = .ok (.ifCond .le 7, 3) := by decide +kernel
theorem dL_people_129 : decode cL_people 129 = .ok (.iconst 1, 1) := by decide +kernel
theorem dL_people_130 : decode cL_people 130 = .ok (.goto 4, 3) := by decide +kernel
theorem dL_people_133 : decode cL_people 133 = .ok (.iconst 0, 1) := by decide +kernel
theorem dL_people_134 : decode cL_people 134 = .ok (.if_icmp .ne 48, 3) := by decide +kernel
theorem dL_people_137 : decode cL_people 137 = .ok (.iload 6, 2) := by decide +kernel
theorem dL_people_139 : decode cL_people 139 = .ok (.iconst 1, 1) := by decide +kernel
theorem dL_people_140 : decode cL_people 140 = .ok (.if_icmp .eq 19, 3) := by decide +kernel
theorem dL_people_143 : decode cL_people 143 = .ok (.iload 6, 2) := by decide +kernel
theorem dL_people_145 : decode cL_people 145 = .ok (.iconst 4, 1) := by decide +kernel
theorem dL_people_146 : decode cL_people 146 = .ok (.if_icmp .eq 13, 3) := by decide +kernel
theorem dL_people_149 : decode cL_people 149 = .ok (.aload_n 0, 1) := by decide +kernel
theorem dL_people_150 : decode cL_people 150 = .ok (.iload 5, 2) := by decide +kernel
theorem dL_people_152 : decode cL_people 152 = .ok (.iconst 5, 1) := by decide +kernel
theorem dL_people_153 : decode cL_people 153 = .ok (.invokevirtual 15, 3) := by decide +kernel
theorem dL_people_156 : decode cL_people 156 = .ok (.ifCond .ne 26, 3) := by decide +kernel
theorem dL_people_159 : decode cL_people 159 = .ok (.aload_n 0, 1) := by decide +kernel
theorem dL_people_160 : decode cL_people 160 = .ok (.iload 5, 2) := by decide +kernel
theorem dL_people_162 : decode cL_people 162 = .ok (.iconst 5, 1) := by decide +kernel
theorem dL_people_163 : decode cL_people 163 = .ok (.invokevirtual 15, 3) := by decide +kernel
theorem dL_people_166 : decode cL_people 166 = .ok (.ifCond .lt 16, 3) := by decide +kernel
theorem dL_people_169 : decode cL_people 169 = .ok (.aload_n 0, 1) := by decide +kernel
theorem dL_people_170 : decode cL_people 170 = .ok (.iload 5, 2) := by decide +kernel
theorem dL_people_172 : decode cL_people 172 = .ok (.bipush 6, 2) := by decide +kernel
theorem dL_people_174 : decode cL_people 174 = .ok (.invokevirtual 15, 3) := by decide +kernel
theorem dL_people_177 : decode cL_people 177 = .ok (.bipush (-2), 2) := by decide +kernel
theorem dL_people_179 : decode cL_people 179 = .ok (.if_icmp .eq 5, 3) := by decide +kernel
theorem dL_people_182 : decode cL_people 182 = .ok (.iconst 0, 1) := by decide +kernel
theorem dL_people_183 : decode cL_people 183 = .ok (.ireturn, 1) := by decide +kernel
theorem dL_people_184 : decode cL_people 184 = .ok (.iinc 5 1, 3) := by decide +kernel
theorem dL_people_187 : decode cL_people 187 = .ok (.goto (-172), 3) := by decide +kernel
theorem dL_people_190 : decode cL_people 190 = .ok (.iconst 0, 1) := by decide +kernel
theorem dL_people_191 : decode cL_people 191 = .ok (.istore 5, 2) := by decide +kernel
theorem dL_people_193 : decode cL_people 193 = .ok (.iload 5, 2) := by decide +kernel
theorem dL_people_195 : decode cL_people 195 = .ok (.aload_n 0, 1) := by decide +kernel
theorem dL_people_196 : decode cL_people 196 = .ok (.iconst 1, 1) := by decide +kernel
theorem dL_people_197 : decode cL_people 197 = .ok (.invokevirtual 9, 3) := by decide +kernel
theorem dL_people_200 : decode cL_people 200 = .ok (.if_icmp .ge 282, 3) := by decide +kernel
theorem dL_people_203 : decode cL_people 203 = .ok (.iload_n 2, 1) := by decide +kernel
theorem dL_people_204 : decode cL_people 204 = .ok (.aload_n 0, 1) := by decide +kernel
theorem dL_people_205 : decode cL_people 205 = .ok (.iload 5, 2) := by decide +kernel
theorem dL_people_207 : decode cL_people 207 = .ok (.bipush 8, 2) := by decide +kernel
theorem dL_people_209 : decode cL_people 209 = .ok (.invokevirtual 19, 3) := by decide +kernel
theorem dL_people_212 : decode cL_people 212 = .ok (.iadd, 1) := by decide +kernel
theorem dL_people_213 : decode cL_people 213 = .ok (.istore_n 2, 1) := by decide +kernel
theorem dL_people_214 : decode cL_people 214 = .ok (.iload 4, 2) := by decide +kernel
theorem dL_people_216 : decode cL_people 216 = .ok (.aload_n 0, 1) := by decide +kernel
theorem dL_people_217 : decode cL_people 217 = .ok (.iload 5, 2) := by decide +kernel
theorem dL_people_219 : decode cL_people 219 = .ok (.iconst 3, 1) := by decide +kernel
theorem dL_people_220 : decode cL_people 220 = .ok (.invokevirtual 19, 3) := by decide +kernel
theorem dL_people_223 : decode cL_people 223 = .ok (.ifCond .lt 7, 3) := by decide +kernel
theorem dL_people_226 : decode cL_people 226 = .ok (.iconst 1, 1) := by decide +kernel
theorem dL_people_227 : decode cL_people 227 = .ok (.goto 4, 3) := by decide +kernel
theorem dL_people_230 : decode cL_people 230 = .ok (.iconst 0, 1) := by decide +kernel
theorem dL_people_231 : decode cL_people 231 = .ok (.iadd, 1) := by decide +kernel
theorem dL_people_232 : decode cL_people 232 = .ok (.istore 4, 2) := by decide +kernel
theorem dL_people_234 : decode cL_people 234 = .ok (.iconst 0, 1) := by decide +kernel
theorem dL_people_235 : decode cL_people 235 = .ok (.istore 6, 2) := by decide +kernel
theorem dL_people_237 : decode cL_people 237 = .ok (.iload 6, 2) := by decide +kernel
theorem dL_people_239 : decode cL_people 239 = .ok (.iconst 2, 1) := by decide +kernel
theorem dL_people_240 : decode cL_people 240 = .ok (.if_icmp .ge 137, 3) := by decide +kernel
theorem dL_people_243 : decode cL_people 243 = .ok (.aload_n 0, 1) := by decide +kernel
theorem dL_people_244 : decode cL_people 244 = .ok (.iload 5, 2) := by decide +kernel
theorem dL_people_246 : decode cL_people 246 = .ok (.iconst 4, 1) := by decide +kernel
theorem dL_people_247 : decode cL_people 247 = .ok (.iload 6, 2) := by decide +kernel
theorem dL_people_249 : decode cL_people 249 = .ok (.iadd, 1) := by decide +kernel
theorem dL_people_250 : decode cL_people 250 = .ok (.invokevirtual 19, 3) := by decide +kernel
theorem dL_people_253 : decode cL_people 253 = .ok (.istore 7, 2) := by decide +kernel
theorem dL_people_255 : decode cL_people 255 = .ok (.iload_n 3, 1) := by decide +kernel
theorem dL_people_256 : decode cL_people 256 = .ok (.iload 7, 2) := by decide +kernel
theorem dL_people_258 : decode cL_people 258 = .ok (.iadd, 1) := by decide +kernel
theorem dL_people_259 : decode cL_people 259 = .ok (.istore_n 3, 1) := by decide +kernel
theorem dL_people_260 : decode cL_people 260 = .ok (.iconst 0, 1) := by decide +kernel
theorem dL_people_261 : decode cL_people 261 = .ok (.istore 8, 2) := by decide +kernel
theorem dL_people_263 : decode cL_people 263 = .ok (.iload 8, 2) := by decide +kernel
theorem dL_people_265 : decode cL_people 265 = .ok (.iload 7, 2) := by decide +kernel
theorem dL_people_267 : decode cL_people 267 = .ok (.if_icmp .ge 60, 3) := by decide +kernel
theorem dL_people_270 : decode cL_people 270 = .ok (.aload_n 0, 1) := by decide +kernel
theorem dL_people_271 : decode cL_people 271 = .ok (.iload 5, 2) := by decide +kernel
theorem dL_people_273 : decode cL_people 273 = .ok (.iload 6, 2) := by decide +kernel
theorem dL_people_275 : decode cL_people 275 = .ok (.iload 8, 2) := by decide +kernel
theorem dL_people_277 : decode cL_people 277 = .ok (.invokevirtual 22, 3) := by decide +kernel
theorem dL_people_280 : decode cL_people 280 = .ok (.istore 9, 2) := by decide +kernel
theorem dL_people_282 : decode cL_people 282 = .ok (.iload 9, 2) := by decide +kernel
theorem dL_people_284 : decode cL_people 284 = .ok (.ifCond .lt 35, 3) := by decide +kernel
theorem dL_people_287 : decode cL_people 287 = .ok (.aload_n 0, 1) := by decide +kernel
theorem dL_people_288 : decode cL_people 288 = .ok (.iload 9, 2) := by decide +kernel
theorem dL_people_290 : decode cL_people 290 = .ok (.iconst 3, 1) := by decide +kernel
theorem dL_people_291 : decode cL_people 291 = .ok (.invokevirtual 15, 3) := by decide +kernel
theorem dL_people_294 : decode cL_people 294 = .ok (.iload 5, 2) := by decide +kernel
theorem dL_people_296 : decode cL_people 296 = .ok (.if_icmp .ne 23, 3) := by decide +kernel
theorem dL_people_299 : decode cL_people 299 = .ok (.aload_n 0, 1) := by decide +kernel
theorem dL_people_300 : decode cL_people 300 = .ok (.iload 9, 2) := by decide +kernel
theorem dL_people_302 : decode cL_people 302 = .ok (.iconst 0, 1) := by decide +kernel
theorem dL_people_303 : decode cL_people 303 = .ok (.invokevirtual 15, 3) := by decide +kernel
theorem dL_people_306 : decode cL_people 306 = .ok (.iload 6, 2) := by decide +kernel
theorem dL_people_308 : decode cL_people 308 = .ok (.ifCond .ne 7, 3) := by decide +kernel
theorem dL_people_311 : decode cL_people 311 = .ok (.iconst 1, 1) := by decide +kernel
theorem dL_people_312 : decode cL_people 312 = .ok (.goto 4, 3) := by decide +kernel
theorem dL_people_315 : decode cL_people 315 = .ok (.iconst 4, 1) := by decide +kernel
theorem dL_people_316 : decode cL_people 316 = .ok (.if_icmp .eq 5, 3) := by decide +kernel
theorem dL_people_319 : decode cL_people 319 = .ok (.iconst 0, 1) := by decide +kernel
theorem dL_people_320 : decode cL_people 320 = .ok (.ireturn, 1) := by decide +kernel
theorem dL_people_321 : decode cL_people 321 = .ok (.iinc 8 1, 3) := by decide +kernel
theorem dL_people_324 : decode cL_people 324 = .ok (.goto (-61), 3) := by decide +kernel
theorem dL_people_327 : decode cL_people 327 = .ok (.aload_n 0, 1) := by decide +kernel
theorem dL_people_328 : decode cL_people 328 = .ok (.iload 5, 2) := by decide +kernel
theorem dL_people_330 : decode cL_people 330 = .ok (.iload 6, 2) := by decide +kernel
theorem dL_people_332 : decode cL_people 332 = .ok (.iload 7, 2) := by decide +kernel
theorem dL_people_334 : decode cL_people 334 = .ok (.invokevirtual 22, 3) := by decide +kernel
theorem dL_people_337 : decode cL_people 337 = .ok (.bipush (-5), 2) := by decide +kernel
theorem dL_people_339 : decode cL_people 339 = .ok (.if_icmp .ne 30, 3) := by decide +kernel
theorem dL_people_342 : decode cL_people 342 = .ok (.aload_n 0, 1) := by decide +kernel
theorem dL_people_343 : decode cL_people 343 = .ok (.iload 5, 2) := by decide +kernel
theorem dL_people_345 : decode cL_people 345 = .ok (.iload 6, 2) := by decide +kernel
theorem dL_people_347 : decode cL_people 347 = .ok (.iconst (-1), 1) := by decide +kernel
theorem dL_people_348 : decode cL_people 348 = .ok (.invokevirtual 22, 3) := by decide +kernel
theorem dL_people_351 : decode cL_people 351 = .ok (.bipush (-2), 2) := by decide +kernel
theorem dL_people_353 : decode cL_people 353 = .ok (.if_icmp .ne 16, 3) := by decide +kernel
theorem dL_people_356 : decode cL_people 356 = .ok (.aload_n 0, 1) := by decide +kernel
theorem dL_people_357 : decode cL_people 357 = .ok (.iload 5, 2) := by decide +kernel
theorem dL_people_359 : decode cL_people 359 = .ok (.iconst 2, 1) := by decide +kernel
theorem dL_people_360 : decode cL_people 360 = .ok (.iconst 0, 1) := by decide +kernel
theorem dL_people_361 : decode cL_people 361 = .ok (.invokevirtual 22, 3) := by decide +kernel
theorem dL_people_364 : decode cL_people 364 = .ok (.bipush (-2), 2) := by decide +kernel
theorem dL_people_366 : decode cL_people 366 = .ok (.if_icmp .eq 5, 3) := by decide +kernel
theorem dL_people_369 : decode cL_people 369 = .ok (.iconst 0, 1) := by decide +kernel
theorem dL_people_370 : decode cL_people 370 = .ok (.ireturn, 1) := by decide +kernel
theorem dL_people_371 : decode cL_people 371 = .ok (.iinc 6 1, 3) := by decide +kernel
theorem dL_people_374 : decode cL_people 374 = .ok (.goto (-137), 3) := by decide +kernel
theorem dL_people_377 : decode cL_people 377 = .ok (.aload_n 0, 1) := by decide +kernel
theorem dL_people_378 : decode cL_people 378 = .ok (.iload 5, 2) := by decide +kernel
theorem dL_people_380 : decode cL_people 380 = .ok (.iconst 1, 1) := by decide +kernel
theorem dL_people_381 : decode cL_people 381 = .ok (.invokevirtual 19, 3) := by decide +kernel
theorem dL_people_384 : decode cL_people 384 = .ok (.istore 6, 2) := by decide +kernel
theorem dL_people_386 : decode cL_people 386 = .ok (.iload 6, 2) := by decide +kernel
theorem dL_people_388 : decode cL_people 388 = .ok (.ifCond .le 13, 3) := by decide +kernel
theorem dL_people_391 : decode cL_people 391 = .ok (.iload 6, 2) := by decide +kernel
theorem dL_people_393 : decode cL_people 393 = .ok (.iconst 5, 1) := by decide +kernel
theorem dL_people_394 : decode cL_people 394 = .ok (.if_icmp .ge 7, 3) := by decide +kernel
theorem dL_people_397 : decode cL_people 397 = .ok (.iconst 1, 1) := by decide +kernel
theorem dL_people_398 : decode cL_people 398 = .ok (.goto 4, 3) := by decide +kernel
theorem dL_people_401 : decode cL_people 401 = .ok (.iconst 0, 1) := by decide +kernel
theorem dL_people_402 : decode cL_people 402 = .ok (.istore 7, 2) := by decide +kernel
theorem dL_people_404 : decode cL_people 404 = .ok (.iload 7, 2) := by decide +kernel
theorem dL_people_406 : decode cL_people 406 = .ok (.aload_n 0, 1) := by decide +kernel
theorem dL_people_407 : decode cL_people 407 = .ok (.iload 5, 2) := by decide +kernel
theorem dL_people_409 : decode cL_people 409 = .ok (.iconst 3, 1) := by decide +kernel
theorem dL_people_410 : decode cL_people 410 = .ok (.invokevirtual 19, 3) := by decide +kernel
theorem dL_people_413 : decode cL_people 413 = .ok (.ifCond .lt 7, 3) := by decide +kernel
theorem dL_people_416 : decode cL_people 416 = .ok (.iconst 1, 1) := by decide +kernel
theorem dL_people_417 : decode cL_people 417 = .ok (.goto 4, 3) := by decide +kernel
theorem dL_people_420 : decode cL_people 420 = .ok (.iconst 0, 1) := by decide +kernel
theorem dL_people_421 : decode cL_people 421 = .ok (.if_icmp .ne 53, 3) := by decide +kernel
theorem dL_people_424 : decode cL_people 424 = .ok (.iload 7, 2) := by decide +kernel
theorem dL_people_426 : decode cL_people 426 = .ok (.aload_n 0, 1) := by decide +kernel
theorem dL_people_427 : decode cL_people 427 = .ok (.iload 5, 2) := by decide +kernel
theorem dL_people_429 : decode cL_people 429 = .ok (.iconst 2, 1) := by decide +kernel
theorem dL_people_430 : decode cL_people 430 = .ok (.invokevirtual 19, 3) := by decide +kernel
theorem dL_people_433 : decode cL_people 433 = .ok (.ifCond .le 7, 3) := by decide +kernel
theorem dL_people_436 : decode cL_people 436 = .ok (.iconst 1, 1) := by decide +kernel
theorem dL_people_437 : decode cL_people 437 = .ok (.goto 4, 3) := by decide +kernel
theorem dL_people_440 : decode cL_people 440 = .ok (.iconst 0, 1) := by decide +kernel
theorem dL_people_441 : decode cL_people 441 = .ok (.if_icmp .ne 33, 3) := by decide +kernel
theorem dL_people_444 : decode cL_people 444 = .ok (.iload 6, 2) := by decide +kernel
theorem dL_people_446 : decode cL_people 446 = .ok (.iconst 5, 1) := by decide +kernel
theorem dL_people_447 : decode cL_people 447 = .ok (.if_icmp .ne 14, 3) := by decide +kernel
theorem dL_people_450 : decode cL_people 450 = .ok (.aload_n 0, 1) := by decide +kernel
theorem dL_people_451 : decode cL_people 451 = .ok (.iload 5, 2) := by decide +kernel
theorem dL_people_453 : decode cL_people 453 = .ok (.bipush 10, 2) := by decide +kernel
theorem dL_people_455 : decode cL_people 455 = .ok (.invokevirtual 19, 3) := by decide +kernel
theorem dL_people_458 : decode cL_people 458 = .ok (.ifCond .ne 16, 3) := by decide +kernel
theorem dL_people_461 : decode cL_people 461 = .ok (.aload_n 0, 1) := by decide +kernel
theorem dL_people_462 : decode cL_people 462 = .ok (.iload 5, 2) := by decide +kernel
theorem dL_people_464 : decode cL_people 464 = .ok (.bipush 11, 2) := by decide +kernel
theorem dL_people_466 : decode cL_people 466 = .ok (.invokevirtual 19, 3) := by decide +kernel
theorem dL_people_469 : decode cL_people 469 = .ok (.bipush (-2), 2) := by decide +kernel
theorem dL_people_471 : decode cL_people 471 = .ok (.if_icmp .eq 5, 3) := by decide +kernel
theorem dL_people_474 : decode cL_people 474 = .ok (.iconst 0, 1) := by decide +kernel
theorem dL_people_475 : decode cL_people 475 = .ok (.ireturn, 1) := by decide +kernel
theorem dL_people_476 : decode cL_people 476 = .ok (.iinc 5 1, 3) := by decide +kernel
theorem dL_people_479 : decode cL_people 479 = .ok (.goto (-286), 3) := by decide +kernel
theorem dL_people_482 : decode cL_people 482 = .ok (.aload_n 0, 1) := by decide +kernel
theorem dL_people_483 : decode cL_people 483 = .ok (.iconst 3, 1) := by decide +kernel
theorem dL_people_484 : decode cL_people 484 = .ok (.invokevirtual 9, 3) := by decide +kernel
theorem dL_people_487 : decode cL_people 487 = .ok (.aload_n 1, 1) := by decide +kernel
theorem dL_people_488 : decode cL_people 488 = .ok (.iconst 3, 1) := by decide +kernel
theorem dL_people_489 : decode cL_people 489 = .ok (.iaload, 1) := by decide +kernel
theorem dL_people_490 : decode cL_people 490 = .ok (.aload_n 1, 1) := by decide +kernel
theorem dL_people_491 : decode cL_people 491 = .ok (.iconst 4, 1) := by decide +kernel
theorem dL_people_492 : decode cL_people 492 = .ok (.iaload, 1) := by decide +kernel
theorem dL_people_493 : decode cL_people 493 = .ok (.iadd, 1) := by decide +kernel
theorem dL_people_494 : decode cL_people 494 = .ok (.if_icmp .ne 102, 3) := by decide +kernel
theorem dL_people_497 : decode cL_people 497 = .ok (.aload_n 0, 1) := by decide +kernel
theorem dL_people_498 : decode cL_people 498 = .ok (.iconst 4, 1) := by decide +kernel
theorem dL_people_499 : decode cL_people 499 = .ok (.invokevirtual 9, 3) := by decide +kernel
theorem dL_people_502 : decode cL_people 502 = .ok (.aload_n 1, 1) := by decide +kernel
theorem dL_people_503 : decode cL_people 503 = .ok (.iconst 1, 1) := by decide +kernel
theorem dL_people_504 : decode cL_people 504 = .ok (.iaload, 1) := by decide +kernel
theorem dL_people_505 : decode cL_people 505 = .ok (.if_icmp .ne 91, 3) := by decide +kernel
theorem dL_people_508 : decode cL_people 508 = .ok (.aload_n 0, 1) := by decide +kernel
theorem dL_people_509 : decode cL_people 509 = .ok (.iconst 5, 1) := by decide +kernel
theorem dL_people_510 : decode cL_people 510 = .ok (.invokevirtual 9, 3) := by decide +kernel
theorem dL_people_513 : decode cL_people 513 = .ok (.aload_n 1, 1) := by decide +kernel
theorem dL_people_514 : decode cL_people 514 = .ok (.iconst 2, 1) := by decide +kernel
theorem dL_people_515 : decode cL_people 515 = .ok (.iaload, 1) := by decide +kernel
theorem dL_people_516 : decode cL_people 516 = .ok (.if_icmp .ne 80, 3) := by decide +kernel
theorem dL_people_519 : decode cL_people 519 = .ok (.aload_n 0, 1) := by decide +kernel
theorem dL_people_520 : decode cL_people 520 = .ok (.bipush 6, 2) := by decide +kernel
theorem dL_people_522 : decode cL_people 522 = .ok (.invokevirtual 9, 3) := by decide +kernel
theorem dL_people_525 : decode cL_people 525 = .ok (.aload_n 1, 1) := by decide +kernel
theorem dL_people_526 : decode cL_people 526 = .ok (.iconst 5, 1) := by decide +kernel
theorem dL_people_527 : decode cL_people 527 = .ok (.iaload, 1) := by decide +kernel
theorem dL_people_528 : decode cL_people 528 = .ok (.if_icmp .ne 68, 3) := by decide +kernel
theorem dL_people_531 : decode cL_people 531 = .ok (.aload_n 0, 1) := by decide +kernel
theorem dL_people_532 : decode cL_people 532 = .ok (.bipush 7, 2) := by decide +kernel
theorem dL_people_534 : decode cL_people 534 = .ok (.invokevirtual 9, 3) := by decide +kernel
theorem dL_people_537 : decode cL_people 537 = .ok (.iload_n 2, 1) := by decide +kernel
theorem dL_people_538 : decode cL_people 538 = .ok (.if_icmp .ne 58, 3) := by decide +kernel
theorem dL_people_541 : decode cL_people 541 = .ok (.iload_n 2, 1) := by decide +kernel
theorem dL_people_542 : decode cL_people 542 = .ok (.aload_n 1, 1) := by decide +kernel
theorem dL_people_543 : decode cL_people 543 = .ok (.iconst 0, 1) := by decide +kernel
theorem dL_people_544 : decode cL_people 544 = .ok (.iaload, 1) := by decide +kernel
theorem dL_people_545 : decode cL_people 545 = .ok (.if_icmp .ne 51, 3) := by decide +kernel
theorem dL_people_548 : decode cL_people 548 = .ok (.iload_n 3, 1) := by decide +kernel
theorem dL_people_549 : decode cL_people 549 = .ok (.aload_n 1, 1) := by decide +kernel
theorem dL_people_550 : decode cL_people 550 = .ok (.iconst 1, 1) := by decide +kernel
theorem dL_people_551 : decode cL_people 551 = .ok (.iaload, 1) := by decide +kernel
theorem dL_people_552 : decode cL_people 552 = .ok (.aload_n 1, 1) := by decide +kernel
theorem dL_people_553 : decode cL_people 553 = .ok (.iconst 4, 1) := by decide +kernel
theorem dL_people_554 : decode cL_people 554 = .ok (.iaload, 1) := by decide +kernel
theorem dL_people_555 : decode cL_people 555 = .ok (.iadd, 1) := by decide +kernel
theorem dL_people_556 : decode cL_people 556 = .ok (.if_icmp .ne 40, 3) := by decide +kernel
theorem dL_people_559 : decode cL_people 559 = .ok (.iload 4, 2) := by decide +kernel
theorem dL_people_561 : decode cL_people 561 = .ok (.aload_n 1, 1) := by decide +kernel
theorem dL_people_562 : decode cL_people 562 = .ok (.iconst 2, 1) := by decide +kernel
theorem dL_people_563 : decode cL_people 563 = .ok (.iaload, 1) := by decide +kernel
theorem dL_people_564 : decode cL_people 564 = .ok (.if_icmp .ne 32, 3) := by decide +kernel
theorem dL_people_567 : decode cL_people 567 = .ok (.aload_n 0, 1) := by decide +kernel
theorem dL_people_568 : decode cL_people 568 = .ok (.aload_n 0, 1) := by decide +kernel
theorem dL_people_569 : decode cL_people 569 = .ok (.iconst 2, 1) := by decide +kernel
theorem dL_people_570 : decode cL_people 570 = .ok (.invokevirtual 9, 3) := by decide +kernel
theorem dL_people_573 : decode cL_people 573 = .ok (.iconst 0, 1) := by decide +kernel
theorem dL_people_574 : decode cL_people 574 = .ok (.invokevirtual 15, 3) := by decide +kernel
theorem dL_people_577 : decode cL_people 577 = .ok (.iconst (-1), 1) := by decide +kernel
theorem dL_people_578 : decode cL_people 578 = .ok (.if_icmp .ne 18, 3) := by decide +kernel
theorem dL_people_581 : decode cL_people 581 = .ok (.aload_n 0, 1) := by decide +kernel
theorem dL_people_582 : decode cL_people 582 = .ok (.bipush 13, 2) := by decide +kernel
theorem dL_people_584 : decode cL_people 584 = .ok (.invokevirtual 9, 3) := by decide +kernel
theorem dL_people_587 : decode cL_people 587 = .ok (.bipush (-2), 2) := by decide +kernel
theorem dL_people_589 : decode cL_people 589 = .ok (.if_icmp .ne 7, 3) := by decide +kernel
theorem dL_people_592 : decode cL_people 592 = .ok (.iconst 1, 1) := by decide +kernel
theorem dL_people_593 : decode cL_people 593 = .ok (.goto 4, 3) := by decide +kernel
theorem dL_people_596 : decode cL_people 596 = .ok (.iconst 0, 1) := by decide +kernel
theorem dL_people_597 : decode cL_people 597 = .ok (.ireturn, 1) := by decide +kernel
theorem dL_pools_0 : decode cL_pools 0 = .ok (.iconst 0, 1) := by decide +kernel
theorem dL_pools_1 : decode cL_pools 1 = .ok (.istore_n 1, 1) := by decide +kernel
theorem dL_pools_2 : decode cL_pools 2 = .ok (.iconst 0, 1) := by decide +kernel
theorem dL_pools_3 : decode cL_pools 3 = .ok (.istore_n 2, 1) := by decide +kernel
theorem dL_pools_4 : decode cL_pools 4 = .ok (.iconst 0, 1) := by decide +kernel
theorem dL_pools_5 : decode cL_pools 5 = .ok (.istore_n 3, 1) := by decide +kernel
theorem dL_pools_6 : decode cL_pools 6 = .ok (.iload_n 3, 1) := by decide +kernel
theorem dL_pools_7 : decode cL_pools 7 = .ok (.aload_n 0, 1) := by decide +kernel
theorem dL_pools_8 : decode cL_pools 8 = .ok (.iconst 0, 1) := by decide +kernel
theorem dL_pools_9 : decode cL_pools 9 = .ok (.invokevirtual 9, 3) := by decide +kernel
theorem dL_pools_12 : decode cL_pools 12 = .ok (.iconst 4, 1) := by decide +kernel
theorem dL_pools_13 : decode cL_pools 13 = .ok (.iadd, 1) := by decide +kernel
theorem dL_pools_14 : decode cL_pools 14 = .ok (.if_icmp .ge 158, 3) := by decide +kernel
theorem dL_pools_17 : decode cL_pools 17 = .ok (.aload_n 0, 1) := by decide +kernel
theorem dL_pools_18 : decode cL_pools 18 = .ok (.iload_n 3, 1) := by decide +kernel
theorem dL_pools_19 : decode cL_pools 19 = .ok (.iconst 0, 1) := by decide +kernel
theorem dL_pools_20 : decode cL_pools 20 = .ok (.invokevirtual 26, 3) := by decide +kernel
theorem dL_pools_23 : decode cL_pools 23 = .ok (.ifCond .lt 149, 3) := by decide +kernel
theorem dL_pools_26 : decode cL_pools 26 = .ok (.iconst 0, 1) := by decide +kernel
theorem dL_pools_27 : decode cL_pools 27 = .ok (.istore 4, 2) := by decide +kernel
theorem dL_pools_29 : decode cL_pools 29 = .ok (.iconst 0, 1) := by decide +kernel
theorem dL_pools_30 : decode cL_pools 30 = .ok (.istore 5, 2) := by decide +kernel
theorem dL_pools_32 : decode cL_pools 32 = .ok (.iload 5, 2) := by decide +kernel
theorem dL_pools_34 : decode cL_pools 34 = .ok (.aload_n 0, 1) := by decide +kernel
theorem dL_pools_35 : decode cL_pools 35 = .ok (.iconst 2, 1) := by decide +kernel
theorem dL_pools_36 : decode cL_pools 36 = .ok (.invokevirtual 9, 3) := by decide +kernel
theorem dL_pools_39 : decode cL_pools 39 = .ok (.if_icmp .ge 65, 3) := by decide +kernel
theorem dL_pools_42 : decode cL_pools 42 = .ok (.aload_n 0, 1) := by decide +kernel
theorem dL_pools_43 : decode cL_pools 43 = .ok (.iload 5, 2) := by decide +kernel
theorem dL_pools_45 : decode cL_pools 45 = .ok (.iconst 1, 1) := by decide +kernel
theorem dL_pools_46 : decode cL_pools 46 = .ok (.invokevirtual 15, 3) := by decide +kernel
theorem dL_pools_49 : decode cL_pools 49 = .ok (.istore 6, 2) := by decide +kernel
theorem dL_pools_51 : decode cL_pools 51 = .ok (.aload_n 0, 1) := by decide +kernel
theorem dL_pools_52 : decode cL_pools 52 = .ok (.iload 5, 2) := by decide +kernel
theorem dL_pools_54 : decode cL_pools 54 = .ok (.iconst 0, 1) := by decide +kernel
theorem dL_pools_55 : decode cL_pools 55 = .ok (.invokevirtual 15, 3) := by decide +kernel
theorem dL_pools_58 : decode cL_pools 58 = .ok (.istore 7, 2) := by decide +kernel
theorem dL_pools_60 : decode cL_pools 60 = .ok (.iload 4, 2) := by decide +kernel
theorem dL_pools_62 : decode cL_pools 62 = .ok (.iload 6, 2) := by decide +kernel
theorem dL_pools_64 : decode cL_pools 64 = .ok (.ifCond .lt 30, 3) := by decide +kernel
theorem dL_pools_67 : decode cL_pools 67 = .ok (.aload_n 0, 1) := by decide +kernel
theorem dL_pools_68 : decode cL_pools 68 = .ok (.iload 6, 2) := by decide +kernel
theorem dL_pools_70 : decode cL_pools 70 = .ok (.iconst 0, 1) := by decide +kernel
theorem dL_pools_71 : decode cL_pools 71 = .ok (.invokevirtual 29, 3) := by decide +kernel
theorem dL_pools_74 : decode cL_pools 74 = .ok (.iload_n 3, 1) := by decide +kernel
theorem dL_pools_75 : decode cL_pools 75 = .ok (.if_icmp .ne 19, 3) := by decide +kernel
theorem dL_pools_78 : decode cL_pools 78 = .ok (.iload 7, 2) := by decide +kernel
theorem dL_pools_80 : decode cL_pools 80 = .ok (.iconst 1, 1) := by decide +kernel
theorem dL_pools_81 : decode cL_pools 81 = .ok (.if_icmp .le 13, 3) := by decide +kernel
theorem dL_pools_84 : decode cL_pools 84 = .ok (.iload 7, 2) := by decide +kernel
theorem dL_pools_86 : decode cL_pools 86 = .ok (.iconst 5, 1) := by decide +kernel
theorem dL_pools_87 : decode cL_pools 87 = .ok (.if_icmp .ge 7, 3) := by decide +kernel
theorem dL_pools_90 : decode cL_pools 90 = .ok (.iconst 1, 1) := by decide +kernel
theorem dL_pools_91 : decode cL_pools 91 = .ok (.goto 4, 3) := by decide +kernel
theorem dL_pools_94 : decode cL_pools 94 = .ok (.iconst 0, 1) := by decide +kernel
theorem dL_pools_95 : decode cL_pools 95 = .ok (.iadd, 1) := by decide +kernel
theorem dL_pools_96 : decode cL_pools 96 = .ok (.istore 4, 2) := by decide +kernel
theorem dL_pools_98 : decode cL_pools 98 = .ok (.iinc 5 1, 3) := by decide +kernel
theorem dL_pools_101 : decode cL_pools 101 = .ok (.goto (-69), 3) := by decide +kernel
theorem dL_pools_104 : decode cL_pools 104 = .ok (.iload_n 1, 1) := by decide +kernel
theorem dL_pools_105 : decode cL_pools 105 = .ok (.aload_n 0, 1) := by decide +kernel
theorem dL_pools_106 : decode cL_pools 106 = .ok (.iload_n 3, 1) := by decide +kernel
theorem dL_pools_107 : decode cL_pools 107 = .ok (.iconst 4, 1) := by decide +kernel
theorem dL_pools_108 : decode cL_pools 108 = .ok (.invokevirtual 26, 3) := by decide +kernel
theorem dL_pools_111 : decode cL_pools 111 = .ok (.iadd, 1) := by decide +kernel
theorem dL_pools_112 : decode cL_pools 112 = .ok (.istore_n 1, 1) := by decide +kernel
theorem dL_pools_113 : decode cL_pools 113 = .ok (.iload_n 2, 1) := by decide +kernel
theorem dL_pools_114 : decode cL_pools 114 = .ok (.aload_n 0, 1) := by decide +kernel
theorem dL_pools_115 : decode cL_pools 115 = .ok (.iload_n 3, 1) := by decide +kernel
theorem dL_pools_116 : decode cL_pools 116 = .ok (.iconst 3, 1) := by decide +kernel
theorem dL_pools_117 : decode cL_pools 117 = .ok (.invokevirtual 26, 3) := by decide +kernel
theorem dL_pools_120 : decode cL_pools 120 = .ok (.iadd, 1) := by decide +kernel
theorem dL_pools_121 : decode cL_pools 121 = .ok (.istore_n 2, 1) := by decide +kernel
theorem dL_pools_122 : decode cL_pools 122 = .ok (.aload_n 0, 1) := by decide +kernel
theorem dL_pools_123 : decode cL_pools 123 = .ok (.iload_n 3, 1) := by decide +kernel
theorem dL_pools_124 : decode cL_pools 124 = .ok (.iconst 2, 1) := by decide +kernel
theorem dL_pools_125 : decode cL_pools 125 = .ok (.invokevirtual 26, 3) := by decide +kernel
theorem dL_pools_128 : decode cL_pools 128 = .ok (.iload 4, 2) := by decide +kernel
theorem dL_pools_130 : decode cL_pools 130 = .ok (.if_icmp .ne 34, 3) := by decide +kernel
theorem dL_pools_133 : decode cL_pools 133 = .ok (.iload 4, 2) := by decide +kernel
theorem dL_pools_135 : decode cL_pools 135 = .ok (.aload_n 0, 1) := by decide +kernel
theorem dL_pools_136 : decode cL_pools 136 = .ok (.iload_n 3, 1) := by decide +kernel
theorem dL_pools_137 : decode cL_pools 137 = .ok (.iconst 1, 1) := by decide +kernel
theorem dL_pools_138 : decode cL_pools 138 = .ok (.invokevirtual 26, 3) := by decide +kernel
theorem dL_pools_141 : decode cL_pools 141 = .ok (.if_icmp .gt 23, 3) := by decide +kernel
theorem dL_pools_144 : decode cL_pools 144 = .ok (.aload_n 0, 1) := by decide +kernel
theorem dL_pools_145 : decode cL_pools 145 = .ok (.iload_n 3, 1) := by decide +kernel
theorem dL_pools_146 : decode cL_pools 146 = .ok (.iconst 0, 1) := by decide +kernel
theorem dL_pools_147 : decode cL_pools 147 = .ok (.invokevirtual 26, 3) := by decide +kernel
theorem dL_pools_150 : decode cL_pools 150 = .ok (.ifCond .lt 14, 3) := by decide +kernel
theorem dL_pools_153 : decode cL_pools 153 = .ok (.aload_n 0, 1) := by decide +kernel
theorem dL_pools_154 : decode cL_pools 154 = .ok (.iload_n 3, 1) := by decide +kernel
theorem dL_pools_155 : decode cL_pools 155 = .ok (.iconst 5, 1) := by decide +kernel
theorem dL_pools_156 : decode cL_pools 156 = .ok (.invokevirtual 26, 3) := by decide +kernel
theorem dL_pools_159 : decode cL_pools 159 = .ok (.bipush (-2), 2) := by decide +kernel
theorem dL_pools_161 : decode cL_pools 161 = .ok (.if_icmp .eq 5, 3) := by decide +kernel
theorem dL_pools_164 : decode cL_pools 164 = .ok (.iconst 0, 1) := by decide +kernel
theorem dL_pools_165 : decode cL_pools 165 = .ok (.ireturn, 1) := by decide +kernel
theorem dL_pools_166 : decode cL_pools 166 = .ok (.iinc 3 1, 3) := by decide +kernel
theorem dL_pools_169 : decode cL_pools 169 = .ok (.goto (-163), 3) := by decide +kernel
theorem dL_pools_172 : decode cL_pools 172 = .ok (.iconst 0, 1) := by decide +kernel
theorem dL_pools_173 : decode cL_pools 173 = .ok (.istore_n 3, 1) := by decide +kernel
theorem dL_pools_174 : decode cL_pools 174 = .ok (.aload_n 0, 1) := by decide +kernel
theorem dL_pools_175 : decode cL_pools 175 = .ok (.iload_n 3, 1) := by decide +kernel
theorem dL_pools_176 : decode cL_pools 176 = .ok (.iconst 0, 1) := by decide +kernel
theorem dL_pools_177 : decode cL_pools 177 = .ok (.invokevirtual 29, 3) := by decide +kernel
theorem dL_pools_180 : decode cL_pools 180 = .ok (.ifCond .lt 94, 3) := by decide +kernel
theorem dL_pools_183 : decode cL_pools 183 = .ok (.aload_n 0, 1) := by decide +kernel
theorem dL_pools_184 : decode cL_pools 184 = .ok (.iload_n 3, 1) := by decide +kernel
theorem dL_pools_185 : decode cL_pools 185 = .ok (.iconst 2, 1) := by decide +kernel
theorem dL_pools_186 : decode cL_pools 186 = .ok (.invokevirtual 29, 3) := by decide +kernel
theorem dL_pools_189 : decode cL_pools 189 = .ok (.istore 4, 2) := by decide +kernel
theorem dL_pools_191 : decode cL_pools 191 = .ok (.iconst 0, 1) := by decide +kernel
theorem dL_pools_192 : decode cL_pools 192 = .ok (.istore 5, 2) := by decide +kernel
theorem dL_pools_194 : decode cL_pools 194 = .ok (.iload 5, 2) := by decide +kernel
theorem dL_pools_196 : decode cL_pools 196 = .ok (.aload_n 0, 1) := by decide +kernel
theorem dL_pools_197 : decode cL_pools 197 = .ok (.iconst 2, 1) := by decide +kernel
theorem dL_pools_198 : decode cL_pools 198 = .ok (.invokevirtual 9, 3) := by decide +kernel
theorem dL_pools_201 : decode cL_pools 201 = .ok (.if_icmp .ge 67, 3) := by decide +kernel
theorem dL_pools_204 : decode cL_pools 204 = .ok (.aload_n 0, 1) := by decide +kernel
theorem dL_pools_205 : decode cL_pools 205 = .ok (.iload 5, 2) := by decide +kernel
theorem dL_pools_207 : decode cL_pools 207 = .ok (.iconst 0, 1) := by decide +kernel
theorem dL_pools_208 : decode cL_pools 208 = .ok (.invokevirtual 15, 3) := by decide +kernel
theorem dL_pools_211 : decode cL_pools 211 = .ok (.istore 6, 2) := by decide +kernel
theorem dL_pools_213 : decode cL_pools 213 = .ok (.aload_n 0, 1) := by decide +kernel
theorem dL_pools_214 : decode cL_pools 214 = .ok (.iload 5, 2) := by decide +kernel
theorem dL_pools_216 : decode cL_pools 216 = .ok (.iconst 1, 1) := by decide +kernel
theorem dL_pools_217 : decode cL_pools 217 = .ok (.invokevirtual 15, 3) := by decide +kernel
theorem dL_pools_220 : decode cL_pools 220 = .ok (.iload_n 3, 1) := by decide +kernel
theorem dL_pools_221 : decode cL_pools 221 = .ok (.if_icmp .ne 19, 3) := by decide +kernel
theorem dL_pools_224 : decode cL_pools 224 = .ok (.iload 6, 2) := by decide +kernel
theorem dL_pools_226 : decode cL_pools 226 = .ok (.iconst 1, 1) := by decide +kernel
theorem dL_pools_227 : decode cL_pools 227 = .ok (.if_icmp .le 13, 3) := by decide +kernel
theorem dL_pools_230 : decode cL_pools 230 = .ok (.iload 6, 2) := by decide +kernel
theorem dL_pools_232 : decode cL_pools 232 = .ok (.iconst 5, 1) := by decide +kernel
theorem dL_pools_233 : decode cL_pools 233 = .ok (.if_icmp .ge 7, 3) := by decide +kernel
theorem dL_pools_236 : decode cL_pools 236 = .ok (.iconst 1, 1) := by decide +kernel
theorem dL_pools_237 : decode cL_pools 237 = .ok (.goto 4, 3) := by decide +kernel
theorem dL_pools_240 : decode cL_pools 240 = .ok (.iconst 0, 1) := by decide +kernel
theorem dL_pools_241 : decode cL_pools 241 = .ok (.istore 7, 2) := by decide +kernel
theorem dL_pools_243 : decode cL_pools 243 = .ok (.iload 7, 2) := by decide +kernel
theorem dL_pools_245 : decode cL_pools 245 = .ok (.iload 4, 2) := by decide +kernel
theorem dL_pools_247 : decode cL_pools 247 = .ok (.iload 5, 2) := by decide +kernel
theorem dL_pools_249 : decode cL_pools 249 = .ok (.if_icmp .ne 7, 3) := by decide +kernel
theorem dL_pools_252 : decode cL_pools 252 = .ok (.iconst 1, 1) := by decide +kernel
theorem dL_pools_253 : decode cL_pools 253 = .ok (.goto 4, 3) := by decide +kernel
theorem dL_pools_256 : decode cL_pools 256 = .ok (.iconst 0, 1) := by decide +kernel
theorem dL_pools_257 : decode cL_pools 257 = .ok (.if_icmp .eq 5, 3) := by decide +kernel
theorem dL_pools_260 : decode cL_pools 260 = .ok (.iconst 0, 1) := by decide +kernel
theorem dL_pools_261 : decode cL_pools 261 = .ok (.ireturn, 1) := by decide +kernel
theorem dL_pools_262 : decode cL_pools 262 = .ok (.iinc 5 1, 3) := by decide +kernel
theorem dL_pools_265 : decode cL_pools 265 = .ok (.goto (-71), 3) := by decide +kernel
theorem dL_pools_268 : decode cL_pools 268 = .ok (.iinc 3 1, 3) := by decide +kernel
theorem dL_pools_271 : decode cL_pools 271 = .ok (.goto (-97), 3) := by decide +kernel
theorem dL_pools_274 : decode cL_pools 274 = .ok (.aload_n 0, 1) := by decide +kernel
theorem dL_pools_275 : decode cL_pools 275 = .ok (.bipush 8, 2) := by decide +kernel
theorem dL_pools_277 : decode cL_pools 277 = .ok (.invokevirtual 9, 3) := by decide +kernel
theorem dL_pools_280 : decode cL_pools 280 = .ok (.iload_n 1, 1) := by decide +kernel
theorem dL_pools_281 : decode cL_pools 281 = .ok (.if_icmp .ne 22, 3) := by decide +kernel
theorem dL_pools_284 : decode cL_pools 284 = .ok (.iload_n 2, 1) := by decide +kernel
theorem dL_pools_285 : decode cL_pools 285 = .ok (.iload_n 3, 1) := by decide +kernel
theorem dL_pools_286 : decode cL_pools 286 = .ok (.if_icmp .ne 17, 3) := by decide +kernel
theorem dL_pools_289 : decode cL_pools 289 = .ok (.aload_n 0, 1) := by decide +kernel
theorem dL_pools_290 : decode cL_pools 290 = .ok (.iload_n 3, 1) := by decide +kernel
theorem dL_pools_291 : decode cL_pools 291 = .ok (.iconst 0, 1) := by decide +kernel
theorem dL_pools_292 : decode cL_pools 292 = .ok (.invokevirtual 29, 3) := by decide +kernel
theorem dL_pools_295 : decode cL_pools 295 = .ok (.iconst (-1), 1) := by decide +kernel
theorem dL_pools_296 : decode cL_pools 296 = .ok (.if_icmp .ne 7, 3) := by decide +kernel
theorem dL_pools_299 : decode cL_pools 299 = .ok (.iconst 1, 1) := by decide +kernel
theorem dL_pools_300 : decode cL_pools 300 = .ok (.goto 4, 3) := by decide +kernel
theorem dL_pools_303 : decode cL_pools 303 = .ok (.iconst 0, 1) := by decide +kernel
theorem dL_pools_304 : decode cL_pools 304 = .ok (.ireturn, 1) := by decide +kernel
theorem dL_refusal_0 : decode cL_refusal 0 = .ok (.aload_n 0, 1) := by decide +kernel
theorem dL_refusal_1 : decode cL_refusal 1 = .ok (.iload_n 1, 1) := by decide +kernel
theorem dL_refusal_2 : decode cL_refusal 2 = .ok (.iconst 1, 1) := by decide +kernel
theorem dL_refusal_3 : decode cL_refusal 3 = .ok (.invokevirtual 15, 3) := by decide +kernel
theorem dL_refusal_6 : decode cL_refusal 6 = .ok (.istore_n 2, 1) := by decide +kernel
theorem dL_refusal_7 : decode cL_refusal 7 = .ok (.iload_n 2, 1) := by decide +kernel
theorem dL_refusal_8 : decode cL_refusal 8 = .ok (.ifCond .ge 5, 3) := by decide +kernel
theorem dL_refusal_11 : decode cL_refusal 11 = .ok (.iconst 1, 1) := by decide +kernel
theorem dL_refusal_12 : decode cL_refusal 12 = .ok (.ireturn, 1) := by decide +kernel
theorem dL_refusal_13 : decode cL_refusal 13 = .ok (.aload_n 0, 1) := by decide +kernel
theorem dL_refusal_14 : decode cL_refusal 14 = .ok (.iload_n 2, 1) := by decide +kernel
theorem dL_refusal_15 : decode cL_refusal 15 = .ok (.iconst 0, 1) := by decide +kernel
theorem dL_refusal_16 : decode cL_refusal 16 = .ok (.invokevirtual 29, 3) := by decide +kernel
theorem dL_refusal_19 : decode cL_refusal 19 = .ok (.istore_n 3, 1) := by decide +kernel
theorem dL_refusal_20 : decode cL_refusal 20 = .ok (.aload_n 0, 1) := by decide +kernel
theorem dL_refusal_21 : decode cL_refusal 21 = .ok (.iload_n 2, 1) := by decide +kernel
theorem dL_refusal_22 : decode cL_refusal 22 = .ok (.iconst 1, 1) := by decide +kernel
theorem dL_refusal_23 : decode cL_refusal 23 = .ok (.invokevirtual 29, 3) := by decide +kernel
theorem dL_refusal_26 : decode cL_refusal 26 = .ok (.iconst 1, 1) := by decide +kernel
theorem dL_refusal_27 : decode cL_refusal 27 = .ok (.if_icmp .ne 7, 3) := by decide +kernel
theorem dL_refusal_30 : decode cL_refusal 30 = .ok (.iconst 2, 1) := by decide +kernel
theorem dL_refusal_31 : decode cL_refusal 31 = .ok (.goto 55, 3) := by decide +kernel
theorem dL_refusal_34 : decode cL_refusal 34 = .ok (.aload_n 0, 1) := by decide +kernel
theorem dL_refusal_35 : decode cL_refusal 35 = .ok (.iload_n 2, 1) := by decide +kernel
theorem dL_refusal_36 : decode cL_refusal 36 = .ok (.iconst 2, 1) := by decide +kernel
theorem dL_refusal_37 : decode cL_refusal 37 = .ok (.invokevirtual 29, 3) := by decide +kernel
theorem dL_refusal_40 : decode cL_refusal 40 = .ok (.ifCond .lt 7, 3) := by decide +kernel
theorem dL_refusal_43 : decode cL_refusal 43 = .ok (.iconst 3, 1) := by decide +kernel
theorem dL_refusal_44 : decode cL_refusal 44 = .ok (.goto 42, 3) := by decide +kernel
theorem dL_refusal_47 : decode cL_refusal 47 = .ok (.aload_n 0, 1) := by decide +kernel
theorem dL_refusal_48 : decode cL_refusal 48 = .ok (.iload_n 3, 1) := by decide +kernel
theorem dL_refusal_49 : decode cL_refusal 49 = .ok (.iconst 2, 1) := by decide +kernel
theorem dL_refusal_50 : decode cL_refusal 50 = .ok (.invokevirtual 26, 3) := by decide +kernel
theorem dL_refusal_53 : decode cL_refusal 53 = .ok (.aload_n 0, 1) := by decide +kernel
theorem dL_refusal_54 : decode cL_refusal 54 = .ok (.iload_n 3, 1) := by decide +kernel
theorem dL_refusal_55 : decode cL_refusal 55 = .ok (.iconst 1, 1) := by decide +kernel
theorem dL_refusal_56 : decode cL_refusal 56 = .ok (.invokevirtual 26, 3) := by decide +kernel
theorem dL_refusal_59 : decode cL_refusal 59 = .ok (.if_icmp .lt 7, 3) := by decide +kernel
theorem dL_refusal_62 : decode cL_refusal 62 = .ok (.iconst 4, 1) := by decide +kernel
theorem dL_refusal_63 : decode cL_refusal 63 = .ok (.goto 23, 3) := by decide +kernel
theorem dL_refusal_66 : decode cL_refusal 66 = .ok (.aload_n 0, 1) := by decide +kernel
theorem dL_refusal_67 : decode cL_refusal 67 = .ok (.iload_n 3, 1) := by decide +kernel
theorem dL_refusal_68 : decode cL_refusal 68 = .ok (.iconst 0, 1) := by decide +kernel
theorem dL_refusal_69 : decode cL_refusal 69 = .ok (.invokevirtual 26, 3) := by decide +kernel
theorem dL_refusal_72 : decode cL_refusal 72 = .ok (.aload_n 0, 1) := by decide +kernel
theorem dL_refusal_73 : decode cL_refusal 73 = .ok (.bipush 9, 2) := by decide +kernel
theorem dL_refusal_75 : decode cL_refusal 75 = .ok (.invokevirtual 9, 3) := by decide +kernel
theorem dL_refusal_78 : decode cL_refusal 78 = .ok (.if_icmp .ge 7, 3) := by decide +kernel
theorem dL_refusal_81 : decode cL_refusal 81 = .ok (.iconst 5, 1) := by decide +kernel
theorem dL_refusal_82 : decode cL_refusal 82 = .ok (.goto 4, 3) := by decide +kernel
theorem dL_refusal_85 : decode cL_refusal 85 = .ok (.iconst 0, 1) := by decide +kernel
theorem dL_refusal_86 : decode cL_refusal 86 = .ok (.ireturn, 1) := by decide +kernel
theorem dL_tick_0 : decode cL_tick 0 = .ok (.aload_n 0, 1) := by decide +kernel
theorem dL_tick_1 : decode cL_tick 1 = .ok (.iload_n 1, 1) := by decide +kernel
theorem dL_tick_2 : decode cL_tick 2 = .ok (.iconst 1, 1) := by decide +kernel
theorem dL_tick_3 : decode cL_tick 3 = .ok (.invokevirtual 19, 3) := by decide +kernel
theorem dL_tick_6 : decode cL_tick 6 = .ok (.istore_n 2, 1) := by decide +kernel
theorem dL_tick_7 : decode cL_tick 7 = .ok (.aload_n 0, 1) := by decide +kernel
theorem dL_tick_8 : decode cL_tick 8 = .ok (.iload_n 1, 1) := by decide +kernel
theorem dL_tick_9 : decode cL_tick 9 = .ok (.iconst 2, 1) := by decide +kernel
theorem dL_tick_10 : decode cL_tick 10 = .ok (.invokevirtual 19, 3) := by decide +kernel
theorem dL_tick_13 : decode cL_tick 13 = .ok (.istore_n 3, 1) := by decide +kernel
theorem dL_tick_14 : decode cL_tick 14 = .ok (.aload_n 0, 1) := by decide +kernel
theorem dL_tick_15 : decode cL_tick 15 = .ok (.iload_n 1, 1) := by decide +kernel
theorem dL_tick_16 : decode cL_tick 16 = .ok (.iconst 3, 1) := by decide +kernel
theorem dL_tick_17 : decode cL_tick 17 = .ok (.invokevirtual 19, 3) := by decide +kernel
theorem dL_tick_20 : decode cL_tick 20 = .ok (.istore 4, 2) := by decide +kernel
theorem dL_tick_22 : decode cL_tick 22 = .ok (.aload_n 0, 1) := by decide +kernel
theorem dL_tick_23 : decode cL_tick 23 = .ok (.iload_n 1, 1) := by decide +kernel
theorem dL_tick_24 : decode cL_tick 24 = .ok (.iconst 0, 1) := by decide +kernel
theorem dL_tick_25 : decode cL_tick 25 = .ok (.invokevirtual 19, 3) := by decide +kernel
theorem dL_tick_28 : decode cL_tick 28 = .ok (.iconst 2, 1) := by decide +kernel
theorem dL_tick_29 : decode cL_tick 29 = .ok (.if_icmp .ne 8, 3) := by decide +kernel
theorem dL_tick_32 : decode cL_tick 32 = .ok (.bipush (-5), 2) := by decide +kernel
theorem dL_tick_34 : decode cL_tick 34 = .ok (.goto 10, 3) := by decide +kernel
theorem dL_tick_37 : decode cL_tick 37 = .ok (.aload_n 0, 1) := by decide +kernel
theorem dL_tick_38 : decode cL_tick 38 = .ok (.iload_n 1, 1) := by decide +kernel
theorem dL_tick_39 : decode cL_tick 39 = .ok (.iconst 0, 1) := by decide +kernel
theorem dL_tick_40 : decode cL_tick 40 = .ok (.iconst 0, 1) := by decide +kernel
theorem dL_tick_41 : decode cL_tick 41 = .ok (.invokevirtual 22, 3) := by decide +kernel
theorem dL_tick_44 : decode cL_tick 44 = .ok (.istore 5, 2) := by decide +kernel
theorem dL_tick_46 : decode cL_tick 46 = .ok (.aload_n 0, 1) := by decide +kernel
theorem dL_tick_47 : decode cL_tick 47 = .ok (.iload_n 1, 1) := by decide +kernel
theorem dL_tick_48 : decode cL_tick 48 = .ok (.iconst 0, 1) := by decide +kernel
theorem dL_tick_49 : decode cL_tick 49 = .ok (.invokevirtual 19, 3) := by decide +kernel
theorem dL_tick_52 : decode cL_tick 52 = .ok (.iconst 1, 1) := by decide +kernel
theorem dL_tick_53 : decode cL_tick 53 = .ok (.if_icmp .ne 8, 3) := by decide +kernel
theorem dL_tick_56 : decode cL_tick 56 = .ok (.bipush (-5), 2) := by decide +kernel
theorem dL_tick_58 : decode cL_tick 58 = .ok (.goto 10, 3) := by decide +kernel
theorem dL_tick_61 : decode cL_tick 61 = .ok (.aload_n 0, 1) := by decide +kernel
theorem dL_tick_62 : decode cL_tick 62 = .ok (.iload_n 1, 1) := by decide +kernel
theorem dL_tick_63 : decode cL_tick 63 = .ok (.iconst 1, 1) := by decide +kernel
theorem dL_tick_64 : decode cL_tick 64 = .ok (.iconst 0, 1) := by decide +kernel
theorem dL_tick_65 : decode cL_tick 65 = .ok (.invokevirtual 22, 3) := by decide +kernel
theorem dL_tick_68 : decode cL_tick 68 = .ok (.istore 6, 2) := by decide +kernel
theorem dL_tick_70 : decode cL_tick 70 = .ok (.iload 5, 2) := by decide +kernel
theorem dL_tick_72 : decode cL_tick 72 = .ok (.ifCond .ge 8, 3) := by decide +kernel
theorem dL_tick_75 : decode cL_tick 75 = .ok (.iload 6, 2) := by decide +kernel
theorem dL_tick_77 : decode cL_tick 77 = .ok (.goto 37, 3) := by decide +kernel
theorem dL_tick_80 : decode cL_tick 80 = .ok (.iload 6, 2) := by decide +kernel
theorem dL_tick_82 : decode cL_tick 82 = .ok (.ifCond .ge 8, 3) := by decide +kernel
theorem dL_tick_85 : decode cL_tick 85 = .ok (.iload 5, 2) := by decide +kernel
theorem dL_tick_87 : decode cL_tick 87 = .ok (.goto 27, 3) := by decide +kernel
theorem dL_tick_90 : decode cL_tick 90 = .ok (.aload_n 0, 1) := by decide +kernel
theorem dL_tick_91 : decode cL_tick 91 = .ok (.iload 5, 2) := by decide +kernel
theorem dL_tick_93 : decode cL_tick 93 = .ok (.iconst 5, 1) := by decide +kernel
theorem dL_tick_94 : decode cL_tick 94 = .ok (.invokevirtual 15, 3) := by decide +kernel
theorem dL_tick_97 : decode cL_tick 97 = .ok (.aload_n 0, 1) := by decide +kernel
theorem dL_tick_98 : decode cL_tick 98 = .ok (.iload 6, 2) := by decide +kernel
theorem dL_tick_100 : decode cL_tick 100 = .ok (.iconst 5, 1) := by decide +kernel
theorem dL_tick_101 : decode cL_tick 101 = .ok (.invokevirtual 15, 3) := by decide +kernel
theorem dL_tick_104 : decode cL_tick 104 = .ok (.if_icmp .le 8, 3) := by decide +kernel
theorem dL_tick_107 : decode cL_tick 107 = .ok (.iload 5, 2) := by decide +kernel
theorem dL_tick_109 : decode cL_tick 109 = .ok (.goto 5, 3) := by decide +kernel
theorem dL_tick_112 : decode cL_tick 112 = .ok (.iload 6, 2) := by decide +kernel
theorem dL_tick_114 : decode cL_tick 114 = .ok (.istore 7, 2) := by decide +kernel
theorem dL_tick_116 : decode cL_tick 116 = .ok (.iload 7, 2) := by decide +kernel
theorem dL_tick_118 : decode cL_tick 118 = .ok (.ifCond .lt 14, 3) := by decide +kernel
theorem dL_tick_121 : decode cL_tick 121 = .ok (.iload 7, 2) := by decide +kernel
theorem dL_tick_123 : decode cL_tick 123 = .ok (.iload 5, 2) := by decide +kernel
theorem dL_tick_125 : decode cL_tick 125 = .ok (.if_icmp .ne 7, 3) := by decide +kernel
theorem dL_tick_128 : decode cL_tick 128 = .ok (.iconst 1, 1) := by decide +kernel
theorem dL_tick_129 : decode cL_tick 129 = .ok (.goto 4, 3) := by decide +kernel
theorem dL_tick_132 : decode cL_tick 132 = .ok (.iconst 0, 1) := by decide +kernel
theorem dL_tick_133 : decode cL_tick 133 = .ok (.istore 8, 2) := by decide +kernel
theorem dL_tick_135 : decode cL_tick 135 = .ok (.iload 8, 2) := by decide +kernel
theorem dL_tick_137 : decode cL_tick 137 = .ok (.ifCond .eq 12, 3) := by decide +kernel
theorem dL_tick_140 : decode cL_tick 140 = .ok (.aload_n 0, 1) := by decide +kernel
theorem dL_tick_141 : decode cL_tick 141 = .ok (.iload 7, 2) := by decide +kernel
theorem dL_tick_143 : decode cL_tick 143 = .ok (.invokestatic 32, 3) := by decide +kernel
theorem dL_tick_146 : decode cL_tick 146 = .ok (.goto 4, 3) := by decide +kernel
theorem dL_tick_149 : decode cL_tick 149 = .ok (.iconst 0, 1) := by decide +kernel
theorem dL_tick_150 : decode cL_tick 150 = .ok (.istore 9, 2) := by decide +kernel
