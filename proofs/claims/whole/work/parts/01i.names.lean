theorem dX10_readOrder_54 : decode cX10_readOrder 54 = .ok (.iload_n 1, 1) := by decide +kernel
theorem dX10_readOrder_55 : decode cX10_readOrder 55 = .ok (.iconst 1, 1) := by decide +kernel
theorem dX10_readOrder_56 : decode cX10_readOrder 56 = .ok (.iadd, 1) := by decide +kernel
theorem dX10_readOrder_57 : decode cX10_readOrder 57 = .ok (.aload_n 0, 1) := by decide +kernel
theorem dX10_readOrder_58 : decode cX10_readOrder 58 = .ok (.iconst 0, 1) := by decide +kernel
theorem dX10_readOrder_59 : decode cX10_readOrder 59 = .ok (.iload_n 2, 1) := by decide +kernel
theorem dX10_readOrder_60 : decode cX10_readOrder 60 = .ok (.invokevirtual 164, 3) := by decide +kernel
theorem dX10_readOrder_63 : decode cX10_readOrder 63 = .ok (.iastore, 1) := by decide +kernel
theorem dX10_readOrder_64 : decode cX10_readOrder 64 = .ok (.aload_n 0, 1) := by decide +kernel
theorem dX10_readOrder_65 : decode cX10_readOrder 65 = .ok (.getfield 23, 3) := by decide +kernel
theorem dX10_readOrder_68 : decode cX10_readOrder 68 = .ok (.iload_n 1, 1) := by decide +kernel
theorem dX10_readOrder_69 : decode cX10_readOrder 69 = .ok (.iconst 2, 1) := by decide +kernel
theorem dX10_readOrder_70 : decode cX10_readOrder 70 = .ok (.iadd, 1) := by decide +kernel
theorem dX10_readOrder_71 : decode cX10_readOrder 71 = .ok (.aload_n 0, 1) := by decide +kernel
theorem dX10_readOrder_72 : decode cX10_readOrder 72 = .ok (.bipush 112, 2) := by decide +kernel
theorem dX10_readOrder_74 : decode cX10_readOrder 74 = .ok (.invokevirtual 170, 3) := by decide +kernel
theorem dX10_readOrder_77 : decode cX10_readOrder 77 = .ok (.ifCond .eq 11, 3) := by decide +kernel
theorem dX10_readOrder_80 : decode cX10_readOrder 80 = .ok (.aload_n 0, 1) := by decide +kernel
theorem dX10_readOrder_81 : decode cX10_readOrder 81 = .ok (.iconst 0, 1) := by decide +kernel
theorem dX10_readOrder_82 : decode cX10_readOrder 82 = .ok (.invokevirtual 174, 3) := by decide +kernel
theorem dX10_readOrder_85 : decode cX10_readOrder 85 = .ok (.goto 4, 3) := by decide +kernel
theorem dX10_readOrder_88 : decode cX10_readOrder 88 = .ok (.iconst (-1), 1) := by decide +kernel
theorem dX10_readOrder_89 : decode cX10_readOrder 89 = .ok (.iastore, 1) := by decide +kernel
theorem dX10_readOrder_90 : decode cX10_readOrder 90 = .ok (.aload_n 0, 1) := by decide +kernel
theorem dX10_readOrder_91 : decode cX10_readOrder 91 = .ok (.getfield 23, 3) := by decide +kernel
theorem dX10_readOrder_94 : decode cX10_readOrder 94 = .ok (.iload_n 1, 1) := by decide +kernel
theorem dX10_readOrder_95 : decode cX10_readOrder 95 = .ok (.iconst 3, 1) := by decide +kernel
theorem dX10_readOrder_96 : decode cX10_readOrder 96 = .ok (.iadd, 1) := by decide +kernel
theorem dX10_readOrder_97 : decode cX10_readOrder 97 = .ok (.aload_n 0, 1) := by decide +kernel
theorem dX10_readOrder_98 : decode cX10_readOrder 98 = .ok (.bipush 115, 2) := by decide +kernel
theorem dX10_readOrder_100 : decode cX10_readOrder 100 = .ok (.invokevirtual 170, 3) := by decide +kernel
theorem dX10_readOrder_103 : decode cX10_readOrder 103 = .ok (.ifCond .eq 7, 3) := by decide +kernel
theorem dX10_readOrder_106 : decode cX10_readOrder 106 = .ok (.iconst 1, 1) := by decide +kernel
theorem dX10_readOrder_107 : decode cX10_readOrder 107 = .ok (.goto 4, 3) := by decide +kernel
theorem dX10_readOrder_110 : decode cX10_readOrder 110 = .ok (.iconst 0, 1) := by decide +kernel
theorem dX10_readOrder_111 : decode cX10_readOrder 111 = .ok (.iastore, 1) := by decide +kernel
theorem dX10_readOrder_112 : decode cX10_readOrder 112 = .ok (.goto 129, 3) := by decide +kernel
theorem dX10_readOrder_115 : decode cX10_readOrder 115 = .ok (.aload_n 0, 1) := by decide +kernel
theorem dX10_readOrder_116 : decode cX10_readOrder 116 = .ok (.bipush 111, 2) := by decide +kernel
theorem dX10_readOrder_118 : decode cX10_readOrder 118 = .ok (.invokevirtual 170, 3) := by decide +kernel
theorem dX10_readOrder_121 : decode cX10_readOrder 121 = .ok (.ifCond .eq 50, 3) := by decide +kernel
theorem dX10_readOrder_124 : decode cX10_readOrder 124 = .ok (.aload_n 0, 1) := by decide +kernel
theorem dX10_readOrder_125 : decode cX10_readOrder 125 = .ok (.getfield 23, 3) := by decide +kernel
theorem dX10_readOrder_128 : decode cX10_readOrder 128 = .ok (.iload_n 1, 1) := by decide +kernel
theorem dX10_readOrder_129 : decode cX10_readOrder 129 = .ok (.iconst 1, 1) := by decide +kernel
theorem dX10_readOrder_130 : decode cX10_readOrder 130 = .ok (.iastore, 1) := by decide +kernel
theorem dX10_readOrder_131 : decode cX10_readOrder 131 = .ok (.aload_n 0, 1) := by decide +kernel
theorem dX10_readOrder_132 : decode cX10_readOrder 132 = .ok (.getfield 23, 3) := by decide +kernel
theorem dX10_readOrder_135 : decode cX10_readOrder 135 = .ok (.iload_n 1, 1) := by decide +kernel
theorem dX10_readOrder_136 : decode cX10_readOrder 136 = .ok (.iconst 1, 1) := by decide +kernel
theorem dX10_readOrder_137 : decode cX10_readOrder 137 = .ok (.iadd, 1) := by decide +kernel
theorem dX10_readOrder_138 : decode cX10_readOrder 138 = .ok (.aload_n 0, 1) := by decide +kernel
theorem dX10_readOrder_139 : decode cX10_readOrder 139 = .ok (.iconst 0, 1) := by decide +kernel
theorem dX10_readOrder_140 : decode cX10_readOrder 140 = .ok (.iload_n 2, 1) := by decide +kernel
theorem dX10_readOrder_141 : decode cX10_readOrder 141 = .ok (.invokevirtual 164, 3) := by decide +kernel
theorem dX10_readOrder_144 : decode cX10_readOrder 144 = .ok (.iastore, 1) := by decide +kernel
theorem dX10_readOrder_145 : decode cX10_readOrder 145 = .ok (.aload_n 0, 1) := by decide +kernel
theorem dX10_readOrder_146 : decode cX10_readOrder 146 = .ok (.aload_n 0, 1) := by decide +kernel
theorem dX10_readOrder_147 : decode cX10_readOrder 147 = .ok (.bipush 110, 2) := by decide +kernel
theorem dX10_readOrder_149 : decode cX10_readOrder 149 = .ok (.invokevirtual 170, 3) := by decide +kernel
theorem dX10_readOrder_152 : decode cX10_readOrder 152 = .ok (.putfield 156, 3) := by decide +kernel
theorem dX10_readOrder_155 : decode cX10_readOrder 155 = .ok (.aload_n 0, 1) := by decide +kernel
theorem dX10_readOrder_156 : decode cX10_readOrder 156 = .ok (.getfield 23, 3) := by decide +kernel
theorem dX10_readOrder_159 : decode cX10_readOrder 159 = .ok (.iload_n 1, 1) := by decide +kernel
theorem dX10_readOrder_160 : decode cX10_readOrder 160 = .ok (.iconst 2, 1) := by decide +kernel
theorem dX10_readOrder_161 : decode cX10_readOrder 161 = .ok (.iadd, 1) := by decide +kernel
theorem dX10_readOrder_162 : decode cX10_readOrder 162 = .ok (.aload_n 0, 1) := by decide +kernel
theorem dX10_readOrder_163 : decode cX10_readOrder 163 = .ok (.iconst 0, 1) := by decide +kernel
theorem dX10_readOrder_164 : decode cX10_readOrder 164 = .ok (.invokevirtual 174, 3) := by decide +kernel
theorem dX10_readOrder_167 : decode cX10_readOrder 167 = .ok (.iastore, 1) := by decide +kernel
theorem dX10_readOrder_168 : decode cX10_readOrder 168 = .ok (.goto 73, 3) := by decide +kernel
theorem dX10_readOrder_171 : decode cX10_readOrder 171 = .ok (.aload_n 0, 1) := by decide +kernel
theorem dX10_readOrder_172 : decode cX10_readOrder 172 = .ok (.bipush 116, 2) := by decide +kernel
theorem dX10_readOrder_174 : decode cX10_readOrder 174 = .ok (.invokevirtual 170, 3) := by decide +kernel
theorem dX10_readOrder_177 : decode cX10_readOrder 177 = .ok (.ifCond .eq 26, 3) := by decide +kernel
theorem dX10_readOrder_180 : decode cX10_readOrder 180 = .ok (.aload_n 0, 1) := by decide +kernel
theorem dX10_readOrder_181 : decode cX10_readOrder 181 = .ok (.getfield 23, 3) := by decide +kernel
theorem dX10_readOrder_184 : decode cX10_readOrder 184 = .ok (.iload_n 1, 1) := by decide +kernel
theorem dX10_readOrder_185 : decode cX10_readOrder 185 = .ok (.iconst 2, 1) := by decide +kernel
theorem dX10_readOrder_186 : decode cX10_readOrder 186 = .ok (.iastore, 1) := by decide +kernel
theorem dX10_readOrder_187 : decode cX10_readOrder 187 = .ok (.aload_n 0, 1) := by decide +kernel
theorem dX10_readOrder_188 : decode cX10_readOrder 188 = .ok (.getfield 23, 3) := by decide +kernel
theorem dX10_readOrder_191 : decode cX10_readOrder 191 = .ok (.iload_n 1, 1) := by decide +kernel
theorem dX10_readOrder_192 : decode cX10_readOrder 192 = .ok (.iconst 1, 1) := by decide +kernel
theorem dX10_readOrder_193 : decode cX10_readOrder 193 = .ok (.iadd, 1) := by decide +kernel
theorem dX10_readOrder_194 : decode cX10_readOrder 194 = .ok (.aload_n 0, 1) := by decide +kernel
theorem dX10_readOrder_195 : decode cX10_readOrder 195 = .ok (.iconst 1, 1) := by decide +kernel
theorem dX10_readOrder_196 : decode cX10_readOrder 196 = .ok (.invokevirtual 174, 3) := by decide +kernel
theorem dX10_readOrder_199 : decode cX10_readOrder 199 = .ok (.iastore, 1) := by decide +kernel
theorem dX10_readOrder_200 : decode cX10_readOrder 200 = .ok (.goto 41, 3) := by decide +kernel
theorem dX10_readOrder_203 : decode cX10_readOrder 203 = .ok (.aload_n 0, 1) := by decide +kernel
theorem dX10_readOrder_204 : decode cX10_readOrder 204 = .ok (.bipush 120, 2) := by decide +kernel
theorem dX10_readOrder_206 : decode cX10_readOrder 206 = .ok (.invokevirtual 170, 3) := by decide +kernel
theorem dX10_readOrder_209 : decode cX10_readOrder 209 = .ok (.ifCond .eq 27, 3) := by decide +kernel
theorem dX10_readOrder_212 : decode cX10_readOrder 212 = .ok (.aload_n 0, 1) := by decide +kernel
theorem dX10_readOrder_213 : decode cX10_readOrder 213 = .ok (.getfield 23, 3) := by decide +kernel
theorem dX10_readOrder_216 : decode cX10_readOrder 216 = .ok (.iload_n 1, 1) := by decide +kernel
theorem dX10_readOrder_217 : decode cX10_readOrder 217 = .ok (.iconst 3, 1) := by decide +kernel
theorem dX10_readOrder_218 : decode cX10_readOrder 218 = .ok (.iastore, 1) := by decide +kernel
theorem dX10_readOrder_219 : decode cX10_readOrder 219 = .ok (.aload_n 0, 1) := by decide +kernel
theorem dX10_readOrder_220 : decode cX10_readOrder 220 = .ok (.getfield 23, 3) := by decide +kernel
theorem dX10_readOrder_223 : decode cX10_readOrder 223 = .ok (.iload_n 1, 1) := by decide +kernel
theorem dX10_readOrder_224 : decode cX10_readOrder 224 = .ok (.iconst 1, 1) := by decide +kernel
theorem dX10_readOrder_225 : decode cX10_readOrder 225 = .ok (.iadd, 1) := by decide +kernel
theorem dX10_readOrder_226 : decode cX10_readOrder 226 = .ok (.aload_n 0, 1) := by decide +kernel
theorem dX10_readOrder_227 : decode cX10_readOrder 227 = .ok (.iconst 0, 1) := by decide +kernel
theorem dX10_readOrder_228 : decode cX10_readOrder 228 = .ok (.iload_n 2, 1) := by decide +kernel
theorem dX10_readOrder_229 : decode cX10_readOrder 229 = .ok (.invokevirtual 164, 3) := by decide +kernel
theorem dX10_readOrder_232 : decode cX10_readOrder 232 = .ok (.iastore, 1) := by decide +kernel
theorem dX10_readOrder_233 : decode cX10_readOrder 233 = .ok (.goto 8, 3) := by decide +kernel
theorem dX10_readOrder_236 : decode cX10_readOrder 236 = .ok (.aload_n 0, 1) := by decide +kernel
theorem dX10_readOrder_237 : decode cX10_readOrder 237 = .ok (.iconst 0, 1) := by decide +kernel
theorem dX10_readOrder_238 : decode cX10_readOrder 238 = .ok (.putfield 156, 3) := by decide +kernel
theorem dX10_readOrder_241 : decode cX10_readOrder 241 = .ok (.aload_n 0, 1) := by decide +kernel
theorem dX10_readOrder_242 : decode cX10_readOrder 242 = .ok (.dup, 1) := by decide +kernel
theorem dX10_readOrder_243 : decode cX10_readOrder 243 = .ok (.getfield 167, 3) := by decide +kernel
theorem dX10_readOrder_246 : decode cX10_readOrder 246 = .ok (.iconst 1, 1) := by decide +kernel
theorem dX10_readOrder_247 : decode cX10_readOrder 247 = .ok (.iadd, 1) := by decide +kernel
theorem dX10_readOrder_248 : decode cX10_readOrder 248 = .ok (.putfield 167, 3) := by decide +kernel
theorem dX10_readOrder_251 : decode cX10_readOrder 251 = .ok (.return_, 1) := by decide +kernel
set_option maxRecDepth 20000 in
theorem ggX10_carryOut_X10_doEnter : GoodIn wsX10_carryOut wsX10_doEnter := goodIn_r _ [6, 7, 8, 9, 10, 5, 11, 12, 13, 14, 15, 16, 17, 18, 19, 20, 21, 22, 23, 24, 25, 26, 131, 132, 133, 134, 135, 136, 137, 138, 139, 140] (by decide +kernel) (by decide +kernel)
set_option maxRecDepth 20000 in
theorem gX10_carryOut_X10_doEnter : GoodIn wsX10_carryOut (wsV RX10 76 RX10 yX10_doEnter wsX10_doEnter) := goodIn_app (goodIn_of _ (by decide +kernel)) ggX10_carryOut_X10_doEnter
set_option maxRecDepth 20000 in
theorem ggX10_carryOut_X10_doExit : GoodIn wsX10_carryOut wsX10_doExit := goodIn_r _ [30, 7, 8, 9, 10, 5, 11, 12, 13, 14, 31, 32, 33, 34, 35, 36, 37, 38, 19, 20, 21, 22, 23, 24, 25, 26, 39, 40, 41, 42, 43, 44, 45, 46, 131, 132, 133, 134, 135, 136, 137, 138, 139, 140] (by decide +kernel) (by decide +kernel)
set_option maxRecDepth 20000 in
theorem gX10_carryOut_X10_doExit : GoodIn wsX10_carryOut (wsV RX10 86 RX10 yX10_doExit wsX10_doExit) := goodIn_app (goodIn_of _ (by decide +kernel)) ggX10_carryOut_X10_doExit
set_option maxRecDepth 20000 in
theorem ggX10_carryOut_X10_doPass : GoodIn wsX10_carryOut wsX10_doPass := goodIn_r _ [50, 12, 13, 5, 14, 51, 52, 53, 54, 7, 55, 56, 57, 58, 59, 60, 61, 62, 63, 64, 65, 66, 67, 68, 69, 70, 71, 72, 73, 74, 75, 76, 77, 78, 43, 44, 45, 46, 35, 36, 37, 38, 79, 80, 81, 82, 83, 84, 85, 86, 87, 88, 89, 90, 91, 92, 93, 94, 95, 96, 97, 98, 19, 20, 21, 22, 99, 100, 101, 102, 103, 104, 105, 106, 107, 108, 109, 110, 111, 112, 113, 114, 115, 116, 117, 118, 119, 120, 121, 122, 123, 124, 125, 126, 131, 132, 133, 134, 135, 136, 137, 138, 139, 140] (by decide +kernel) (by decide +kernel)
set_option maxRecDepth 20000 in
theorem gX10_carryOut_X10_doPass : GoodIn wsX10_carryOut (wsV RX10 144 RX10 yX10_doPass wsX10_doPass) := goodIn_app (goodIn_of _ (by decide +kernel)) ggX10_carryOut_X10_doPass
set_option maxRecDepth 20000 in
theorem ggX10_carryOut_X10_doPinch : GoodIn wsX10_carryOut wsX10_doPinch := goodIn_r _ [130, 8, 9, 10, 5, 11, 7, 12, 13, 14, 55, 56, 57, 58, 99, 100, 101, 102, 131, 132, 133, 134, 135, 136, 137, 138, 139, 140] (by decide +kernel) (by decide +kernel)
set_option maxRecDepth 20000 in
theorem gX10_carryOut_X10_doPinch : GoodIn wsX10_carryOut (wsV RX10 147 RX10 yX10_doPinch wsX10_doPinch) := goodIn_app (goodIn_of _ (by decide +kernel)) ggX10_carryOut_X10_doPinch
theorem dX10_carryOut_0 : decode cX10_carryOut 0 = .ok (.aload_n 0, 1) := by decide +kernel
theorem dX10_carryOut_1 : decode cX10_carryOut 1 = .ok (.getfield 23, 3) := by decide +kernel
theorem dX10_carryOut_4 : decode cX10_carryOut 4 = .ok (.iload_n 1, 1) := by decide +kernel
theorem dX10_carryOut_5 : decode cX10_carryOut 5 = .ok (.iaload, 1) := by decide +kernel
theorem dX10_carryOut_6 : decode cX10_carryOut 6 = .ok (.tableswitch 98 0 2 #[26, 64, 85], 26) := by decide +kernel
theorem dX10_carryOut_32 : decode cX10_carryOut 32 = .ok (.aload_n 0, 1) := by decide +kernel
theorem dX10_carryOut_33 : decode cX10_carryOut 33 = .ok (.aload_n 0, 1) := by decide +kernel
theorem dX10_carryOut_34 : decode cX10_carryOut 34 = .ok (.getfield 23, 3) := by decide +kernel
theorem dX10_carryOut_37 : decode cX10_carryOut 37 = .ok (.iload_n 1, 1) := by decide +kernel
theorem dX10_carryOut_38 : decode cX10_carryOut 38 = .ok (.iconst 1, 1) := by decide +kernel
theorem dX10_carryOut_39 : decode cX10_carryOut 39 = .ok (.iadd, 1) := by decide +kernel
theorem dX10_carryOut_40 : decode cX10_carryOut 40 = .ok (.iaload, 1) := by decide +kernel
theorem dX10_carryOut_41 : decode cX10_carryOut 41 = .ok (.aload_n 0, 1) := by decide +kernel
theorem dX10_carryOut_42 : decode cX10_carryOut 42 = .ok (.getfield 23, 3) := by decide +kernel
theorem dX10_carryOut_45 : decode cX10_carryOut 45 = .ok (.iload_n 1, 1) := by decide +kernel
theorem dX10_carryOut_46 : decode cX10_carryOut 46 = .ok (.iconst 2, 1) := by decide +kernel
theorem dX10_carryOut_47 : decode cX10_carryOut 47 = .ok (.iadd, 1) := by decide +kernel
theorem dX10_carryOut_48 : decode cX10_carryOut 48 = .ok (.iaload, 1) := by decide +kernel
theorem dX10_carryOut_49 : decode cX10_carryOut 49 = .ok (.aload_n 0, 1) := by decide +kernel
theorem dX10_carryOut_50 : decode cX10_carryOut 50 = .ok (.getfield 23, 3) := by decide +kernel
theorem dX10_carryOut_53 : decode cX10_carryOut 53 = .ok (.iload_n 1, 1) := by decide +kernel
theorem dX10_carryOut_54 : decode cX10_carryOut 54 = .ok (.iconst 3, 1) := by decide +kernel
theorem dX10_carryOut_55 : decode cX10_carryOut 55 = .ok (.iadd, 1) := by decide +kernel
theorem dX10_carryOut_56 : decode cX10_carryOut 56 = .ok (.iaload, 1) := by decide +kernel
theorem dX10_carryOut_57 : decode cX10_carryOut 57 = .ok (.iconst 1, 1) := by decide +kernel
theorem dX10_carryOut_58 : decode cX10_carryOut 58 = .ok (.if_icmp .ne 7, 3) := by decide +kernel
theorem dX10_carryOut_61 : decode cX10_carryOut 61 = .ok (.iconst 1, 1) := by decide +kernel
theorem dX10_carryOut_62 : decode cX10_carryOut 62 = .ok (.goto 4, 3) := by decide +kernel
theorem dX10_carryOut_65 : decode cX10_carryOut 65 = .ok (.iconst 0, 1) := by decide +kernel
theorem dX10_carryOut_66 : decode cX10_carryOut 66 = .ok (.invokevirtual 76, 3) := by decide +kernel
theorem dX10_carryOut_69 : decode cX10_carryOut 69 = .ok (.ireturn, 1) := by decide +kernel
theorem dX10_carryOut_70 : decode cX10_carryOut 70 = .ok (.aload_n 0, 1) := by decide +kernel
theorem dX10_carryOut_71 : decode cX10_carryOut 71 = .ok (.aload_n 0, 1) := by decide +kernel
theorem dX10_carryOut_72 : decode cX10_carryOut 72 = .ok (.getfield 23, 3) := by decide +kernel
theorem dX10_carryOut_75 : decode cX10_carryOut 75 = .ok (.iload_n 1, 1) := by decide +kernel
theorem dX10_carryOut_76 : decode cX10_carryOut 76 = .ok (.iconst 1, 1) := by decide +kernel
theorem dX10_carryOut_77 : decode cX10_carryOut 77 = .ok (.iadd, 1) := by decide +kernel
theorem dX10_carryOut_78 : decode cX10_carryOut 78 = .ok (.iaload, 1) := by decide +kernel
theorem dX10_carryOut_79 : decode cX10_carryOut 79 = .ok (.aload_n 0, 1) := by decide +kernel
theorem dX10_carryOut_80 : decode cX10_carryOut 80 = .ok (.getfield 23, 3) := by decide +kernel
theorem dX10_carryOut_83 : decode cX10_carryOut 83 = .ok (.iload_n 1, 1) := by decide +kernel
theorem dX10_carryOut_84 : decode cX10_carryOut 84 = .ok (.iconst 2, 1) := by decide +kernel
theorem dX10_carryOut_85 : decode cX10_carryOut 85 = .ok (.iadd, 1) := by decide +kernel
theorem dX10_carryOut_86 : decode cX10_carryOut 86 = .ok (.iaload, 1) := by decide +kernel
theorem dX10_carryOut_87 : decode cX10_carryOut 87 = .ok (.invokevirtual 86, 3) := by decide +kernel
theorem dX10_carryOut_90 : decode cX10_carryOut 90 = .ok (.ireturn, 1) := by decide +kernel
theorem dX10_carryOut_91 : decode cX10_carryOut 91 = .ok (.aload_n 0, 1) := by decide +kernel
theorem dX10_carryOut_92 : decode cX10_carryOut 92 = .ok (.aload_n 0, 1) := by decide +kernel
theorem dX10_carryOut_93 : decode cX10_carryOut 93 = .ok (.getfield 23, 3) := by decide +kernel
theorem dX10_carryOut_96 : decode cX10_carryOut 96 = .ok (.iload_n 1, 1) := by decide +kernel
theorem dX10_carryOut_97 : decode cX10_carryOut 97 = .ok (.iconst 1, 1) := by decide +kernel
theorem dX10_carryOut_98 : decode cX10_carryOut 98 = .ok (.iadd, 1) := by decide +kernel
theorem dX10_carryOut_99 : decode cX10_carryOut 99 = .ok (.iaload, 1) := by decide +kernel
theorem dX10_carryOut_100 : decode cX10_carryOut 100 = .ok (.invokevirtual 144, 3) := by decide +kernel
theorem dX10_carryOut_103 : decode cX10_carryOut 103 = .ok (.ireturn, 1) := by decide +kernel
theorem dX10_carryOut_104 : decode cX10_carryOut 104 = .ok (.aload_n 0, 1) := by decide +kernel
theorem dX10_carryOut_105 : decode cX10_carryOut 105 = .ok (.aload_n 0, 1) := by decide +kernel
theorem dX10_carryOut_106 : decode cX10_carryOut 106 = .ok (.getfield 23, 3) := by decide +kernel
theorem dX10_carryOut_109 : decode cX10_carryOut 109 = .ok (.iload_n 1, 1) := by decide +kernel
theorem dX10_carryOut_110 : decode cX10_carryOut 110 = .ok (.iconst 1, 1) := by decide +kernel
theorem dX10_carryOut_111 : decode cX10_carryOut 111 = .ok (.iadd, 1) := by decide +kernel
theorem dX10_carryOut_112 : decode cX10_carryOut 112 = .ok (.iaload, 1) := by decide +kernel
theorem dX10_carryOut_113 : decode cX10_carryOut 113 = .ok (.invokevirtual 147, 3) := by decide +kernel
theorem dX10_carryOut_116 : decode cX10_carryOut 116 = .ok (.ireturn, 1) := by decide +kernel
theorem dX10_isError_0 : decode cX10_isError 0 = .ok (.iload_n 0, 1) := by decide +kernel
theorem dX10_isError_1 : decode cX10_isError 1 = .ok (.ifCond .ge 13, 3) := by decide +kernel
theorem dX10_isError_4 : decode cX10_isError 4 = .ok (.iload_n 0, 1) := by decide +kernel
theorem dX10_isError_5 : decode cX10_isError 5 = .ok (.bipush (-5), 2) := by decide +kernel
theorem dX10_isError_7 : decode cX10_isError 7 = .ok (.if_icmp .eq 7, 3) := by decide +kernel
theorem dX10_isError_10 : decode cX10_isError 10 = .ok (.iconst 1, 1) := by decide +kernel
theorem dX10_isError_11 : decode cX10_isError 11 = .ok (.goto 4, 3) := by decide +kernel
theorem dX10_isError_14 : decode cX10_isError 14 = .ok (.iconst 0, 1) := by decide +kernel
theorem dX10_isError_15 : decode cX10_isError 15 = .ok (.ireturn, 1) := by decide +kernel
set_option maxRecDepth 20000 in
theorem ggX10_run_X10_readOrder : GoodIn wsX10_run wsX10_readOrder := goodIn_r _ [9, 3, 10, 11, 2, 12, 13, 14, 8, 15, 1, 16, 17, 18, 19, 4, 20, 21, 22, 23, 24, 25, 26, 27, 28, 174, 175, 176, 177, 178, 179, 180, 181, 182, 183] (by decide +kernel) (by decide +kernel)
set_option maxRecDepth 20000 in
theorem gX10_run_X10_readOrder : GoodIn wsX10_run (wsV RX10 177 RX10 yX10_readOrder wsX10_readOrder) := goodIn_app (goodIn_of _ (by decide +kernel)) ggX10_run_X10_readOrder
set_option maxRecDepth 20000 in
theorem ggX10_run_X10_begin : GoodIn wsX10_run wsX10_begin := goodIn_r _ [32, 33, 10, 174, 175, 176, 177, 178, 179, 180, 181, 182, 183] (by decide +kernel) (by decide +kernel)
set_option maxRecDepth 20000 in
theorem gX10_run_X10_begin : GoodIn wsX10_run (wsV RX10 38 RX10 yX10_begin wsX10_begin) := goodIn_app (goodIn_of _ (by decide +kernel)) ggX10_run_X10_begin
set_option maxRecDepth 20000 in
theorem ggX10_run_X10_carryOut : GoodIn wsX10_run wsX10_carryOut := goodIn_r _ [37, 11, 38, 39, 40, 8, 41, 10, 42, 43, 44, 45, 46, 47, 48, 49, 50, 51, 52, 53, 54, 55, 56, 57, 58, 59, 60, 61, 62, 63, 64, 65, 66, 67, 68, 69, 70, 71, 72, 73, 74, 75, 76, 77, 78, 79, 80, 81, 82, 83, 84, 85, 86, 87, 88, 89, 90, 91, 92, 93, 94, 95, 96, 97, 98, 99, 100, 101, 102, 103, 104, 105, 106, 107, 108, 109, 110, 111, 112, 113, 114, 115, 116, 117, 118, 119, 120, 121, 122, 123, 124, 125, 126, 127, 128, 129, 130, 131, 132, 133, 134, 135, 136, 137, 138, 139, 140, 141, 142, 143, 144, 145, 146, 147, 148, 149, 150, 151, 152, 153, 154, 155, 156, 157, 158, 159, 160, 161, 162, 163, 164, 174, 175, 176, 177, 178, 179, 180, 181, 182, 183] (by decide +kernel) (by decide +kernel)
set_option maxRecDepth 20000 in
theorem gX10_run_X10_carryOut : GoodIn wsX10_run (wsV RX10 180 RX10 yX10_carryOut wsX10_carryOut) := goodIn_app (goodIn_of _ (by decide +kernel)) ggX10_run_X10_carryOut
set_option maxRecDepth 20000 in
theorem ggX10_run_X10_isError : GoodIn wsX10_run wsX10_isError := goodIn_r _ [167] (by decide +kernel) (by decide +kernel)
set_option maxRecDepth 20000 in
theorem gX10_run_X10_isError : GoodIn wsX10_run (va_wsS RX10 183 yX10_isError wsX10_isError) := goodIn_app (goodIn_of _ (by decide +kernel)) ggX10_run_X10_isError
set_option maxRecDepth 20000 in
theorem ggX10_run_X10_recorded : GoodIn wsX10_run wsX10_recorded := goodIn_r _ [171, 172, 173, 33, 174, 175, 176, 177, 178, 179, 180, 181, 182, 183] (by decide +kernel) (by decide +kernel)
set_option maxRecDepth 20000 in
theorem gX10_run_X10_recorded : GoodIn wsX10_run (wsV RX10 30 RX10 yX10_recorded wsX10_recorded) := goodIn_app (goodIn_of _ (by decide +kernel)) ggX10_run_X10_recorded
theorem dX10_run_0 : decode cX10_run 0 = .ok (.aload_n 0, 1) := by decide +kernel
theorem dX10_run_1 : decode cX10_run 1 = .ok (.iconst 0, 1) := by decide +kernel
theorem dX10_run_2 : decode cX10_run 2 = .ok (.putfield 153, 3) := by decide +kernel
theorem dX10_run_5 : decode cX10_run 5 = .ok (.aload_n 0, 1) := by decide +kernel
theorem dX10_run_6 : decode cX10_run 6 = .ok (.iconst 1, 1) := by decide +kernel
theorem dX10_run_7 : decode cX10_run 7 = .ok (.putfield 156, 3) := by decide +kernel
theorem dX10_run_10 : decode cX10_run 10 = .ok (.aload_n 0, 1) := by decide +kernel
theorem dX10_run_11 : decode cX10_run 11 = .ok (.iconst 0, 1) := by decide +kernel
theorem dX10_run_12 : decode cX10_run 12 = .ok (.putfield 167, 3) := by decide +kernel
theorem dX10_run_15 : decode cX10_run 15 = .ok (.aload_n 0, 1) := by decide +kernel
theorem dX10_run_16 : decode cX10_run 16 = .ok (.invokevirtual 177, 3) := by decide +kernel
theorem dX10_run_19 : decode cX10_run 19 = .ok (.aload_n 0, 1) := by decide +kernel
theorem dX10_run_20 : decode cX10_run 20 = .ok (.getfield 156, 3) := by decide +kernel
theorem dX10_run_23 : decode cX10_run 23 = .ok (.ifCond .eq 21, 3) := by decide +kernel
theorem dX10_run_26 : decode cX10_run 26 = .ok (.aload_n 0, 1) := by decide +kernel
theorem dX10_run_27 : decode cX10_run 27 = .ok (.getfield 153, 3) := by decide +kernel
theorem dX10_run_30 : decode cX10_run 30 = .ok (.aload_n 0, 1) := by decide +kernel
theorem dX10_run_31 : decode cX10_run 31 = .ok (.getfield 150, 3) := by decide +kernel
theorem dX10_run_34 : decode cX10_run 34 = .ok (.if_icmp .ge 10, 3) := by decide +kernel
theorem dX10_run_37 : decode cX10_run 37 = .ok (.aload_n 0, 1) := by decide +kernel
theorem dX10_run_38 : decode cX10_run 38 = .ok (.invokevirtual 177, 3) := by decide +kernel
theorem dX10_run_41 : decode cX10_run 41 = .ok (.goto (-22), 3) := by decide +kernel
theorem dX10_run_44 : decode cX10_run 44 = .ok (.aload_n 0, 1) := by decide +kernel
theorem dX10_run_45 : decode cX10_run 45 = .ok (.getfield 156, 3) := by decide +kernel
theorem dX10_run_48 : decode cX10_run 48 = .ok (.ifCond .ne 11, 3) := by decide +kernel
theorem dX10_run_51 : decode cX10_run 51 = .ok (.bipush (-100), 2) := by decide +kernel
theorem dX10_run_53 : decode cX10_run 53 = .ok (.aload_n 0, 1) := by decide +kernel
theorem dX10_run_54 : decode cX10_run 54 = .ok (.getfield 153, 3) := by decide +kernel
theorem dX10_run_57 : decode cX10_run 57 = .ok (.isub, 1) := by decide +kernel
theorem dX10_run_58 : decode cX10_run 58 = .ok (.ireturn, 1) := by decide +kernel
theorem dX10_run_59 : decode cX10_run 59 = .ok (.aload_n 0, 1) := by decide +kernel
theorem dX10_run_60 : decode cX10_run 60 = .ok (.invokevirtual 38, 3) := by decide +kernel
theorem dX10_run_63 : decode cX10_run 63 = .ok (.iconst 0, 1) := by decide +kernel
theorem dX10_run_64 : decode cX10_run 64 = .ok (.istore_n 1, 1) := by decide +kernel
theorem dX10_run_65 : decode cX10_run 65 = .ok (.iload_n 1, 1) := by decide +kernel
theorem dX10_run_66 : decode cX10_run 66 = .ok (.aload_n 0, 1) := by decide +kernel
theorem dX10_run_67 : decode cX10_run 67 = .ok (.getfield 167, 3) := by decide +kernel
theorem dX10_run_70 : decode cX10_run 70 = .ok (.if_icmp .ge 22, 3) := by decide +kernel
theorem dX10_run_73 : decode cX10_run 73 = .ok (.aload_n 0, 1) := by decide +kernel
theorem dX10_run_74 : decode cX10_run 74 = .ok (.iconst 4, 1) := by decide +kernel
theorem dX10_run_75 : decode cX10_run 75 = .ok (.iload_n 1, 1) := by decide +kernel
theorem dX10_run_76 : decode cX10_run 76 = .ok (.imul, 1) := by decide +kernel
theorem dX10_run_77 : decode cX10_run 77 = .ok (.invokevirtual 180, 3) := by decide +kernel
theorem dX10_run_80 : decode cX10_run 80 = .ok (.invokestatic 183, 3) := by decide +kernel
theorem dX10_run_83 : decode cX10_run 83 = .ok (.ifCond .ne 9, 3) := by decide +kernel
theorem dX10_run_86 : decode cX10_run 86 = .ok (.iinc 1 1, 3) := by decide +kernel
theorem dX10_run_89 : decode cX10_run 89 = .ok (.goto (-24), 3) := by decide +kernel
theorem dX10_run_92 : decode cX10_run 92 = .ok (.aload_n 0, 1) := by decide +kernel
theorem dX10_run_93 : decode cX10_run 93 = .ok (.iload_n 1, 1) := by decide +kernel
theorem dX10_run_94 : decode cX10_run 94 = .ok (.invokevirtual 30, 3) := by decide +kernel
theorem dX10_run_97 : decode cX10_run 97 = .ok (.ireturn, 1) := by decide +kernel
set_option maxRecDepth 20000 in
theorem ggX10_gate_X10_noGate : GoodIn wsX10_gate wsX10_noGate := goodIn_r _ [5, 6, 7, 8, 4, 9, 26, 27, 28, 29, 30, 31, 32, 33, 34, 35] (by decide +kernel) (by decide +kernel)
set_option maxRecDepth 20000 in
theorem gX10_gate_X10_noGate : GoodIn wsX10_gate (wsV RX10 48 RX10 yX10_noGate wsX10_noGate) := goodIn_app (goodIn_of _ (by decide +kernel)) ggX10_gate_X10_noGate
set_option maxRecDepth 20000 in
theorem ggX10_gate_X10_gateOf : GoodIn wsX10_gate wsX10_gateOf := goodIn_r _ [13, 6, 26, 27, 28, 29, 30, 31, 32, 33, 34, 35] (by decide +kernel) (by decide +kernel)
set_option maxRecDepth 20000 in
theorem gX10_gate_X10_gateOf : GoodIn wsX10_gate (wsV RX10 52 RX10 yX10_gateOf wsX10_gateOf) := goodIn_app (goodIn_of _ (by decide +kernel)) ggX10_gate_X10_gateOf
set_option maxRecDepth 20000 in
theorem ggX10_gate_X10_queueLength : GoodIn wsX10_gate wsX10_queueLength := goodIn_r _ [17, 6, 18, 19, 20, 4, 21, 22, 23, 24, 25, 26, 27, 28, 29, 30, 31, 32, 33, 34, 35] (by decide +kernel) (by decide +kernel)
set_option maxRecDepth 20000 in
theorem gX10_gate_X10_queueLength : GoodIn wsX10_gate (wsV RX10 83 RX10 yX10_queueLength wsX10_queueLength) := goodIn_app (goodIn_of _ (by decide +kernel)) ggX10_gate_X10_queueLength
theorem dX10_gate_0 : decode cX10_gate 0 = .ok (.aload_n 0, 1) := by decide +kernel
theorem dX10_gate_1 : decode cX10_gate 1 = .ok (.iload_n 1, 1) := by decide +kernel
theorem dX10_gate_2 : decode cX10_gate 2 = .ok (.invokevirtual 48, 3) := by decide +kernel
theorem dX10_gate_5 : decode cX10_gate 5 = .ok (.ifCond .eq 5, 3) := by decide +kernel
theorem dX10_gate_8 : decode cX10_gate 8 = .ok (.iconst (-1), 1) := by decide +kernel
theorem dX10_gate_9 : decode cX10_gate 9 = .ok (.ireturn, 1) := by decide +kernel
theorem dX10_gate_10 : decode cX10_gate 10 = .ok (.iload_n 2, 1) := by decide +kernel
theorem dX10_gate_11 : decode cX10_gate 11 = .ok (.tableswitch 135 0 10 #[57, 64, 71, 78, 86, 86, 95, 103, 111, 119, 127], 57) := by decide +kernel
theorem dX10_gate_68 : decode cX10_gate 68 = .ok (.aload_n 0, 1) := by decide +kernel
theorem dX10_gate_69 : decode cX10_gate 69 = .ok (.iload_n 1, 1) := by decide +kernel
theorem dX10_gate_70 : decode cX10_gate 70 = .ok (.iconst 0, 1) := by decide +kernel
theorem dX10_gate_71 : decode cX10_gate 71 = .ok (.invokevirtual 52, 3) := by decide +kernel
theorem dX10_gate_74 : decode cX10_gate 74 = .ok (.ireturn, 1) := by decide +kernel
theorem dX10_gate_75 : decode cX10_gate 75 = .ok (.aload_n 0, 1) := by decide +kernel
theorem dX10_gate_76 : decode cX10_gate 76 = .ok (.iload_n 1, 1) := by decide +kernel
theorem dX10_gate_77 : decode cX10_gate 77 = .ok (.iconst 4, 1) := by decide +kernel
theorem dX10_gate_78 : decode cX10_gate 78 = .ok (.invokevirtual 52, 3) := by decide +kernel
theorem dX10_gate_81 : decode cX10_gate 81 = .ok (.ireturn, 1) := by decide +kernel
theorem dX10_gate_82 : decode cX10_gate 82 = .ok (.aload_n 0, 1) := by decide +kernel
theorem dX10_gate_83 : decode cX10_gate 83 = .ok (.iload_n 1, 1) := by decide +kernel
theorem dX10_gate_84 : decode cX10_gate 84 = .ok (.iconst 5, 1) := by decide +kernel
theorem dX10_gate_85 : decode cX10_gate 85 = .ok (.invokevirtual 52, 3) := by decide +kernel
theorem dX10_gate_88 : decode cX10_gate 88 = .ok (.ireturn, 1) := by decide +kernel
theorem dX10_gate_89 : decode cX10_gate 89 = .ok (.aload_n 0, 1) := by decide +kernel
theorem dX10_gate_90 : decode cX10_gate 90 = .ok (.iload_n 1, 1) := by decide +kernel
theorem dX10_gate_91 : decode cX10_gate 91 = .ok (.bipush 6, 2) := by decide +kernel
theorem dX10_gate_93 : decode cX10_gate 93 = .ok (.invokevirtual 52, 3) := by decide +kernel
theorem dX10_gate_96 : decode cX10_gate 96 = .ok (.ireturn, 1) := by decide +kernel
theorem dX10_gate_97 : decode cX10_gate 97 = .ok (.aload_n 0, 1) := by decide +kernel
theorem dX10_gate_98 : decode cX10_gate 98 = .ok (.iload_n 1, 1) := by decide +kernel
theorem dX10_gate_99 : decode cX10_gate 99 = .ok (.iload_n 2, 1) := by decide +kernel
theorem dX10_gate_100 : decode cX10_gate 100 = .ok (.iconst 4, 1) := by decide +kernel
theorem dX10_gate_101 : decode cX10_gate 101 = .ok (.isub, 1) := by decide +kernel
theorem dX10_gate_102 : decode cX10_gate 102 = .ok (.invokevirtual 83, 3) := by decide +kernel
theorem dX10_gate_105 : decode cX10_gate 105 = .ok (.ireturn, 1) := by decide +kernel
theorem dX10_gate_106 : decode cX10_gate 106 = .ok (.aload_n 0, 1) := by decide +kernel
theorem dX10_gate_107 : decode cX10_gate 107 = .ok (.iload_n 1, 1) := by decide +kernel
theorem dX10_gate_108 : decode cX10_gate 108 = .ok (.bipush 10, 2) := by decide +kernel
theorem dX10_gate_110 : decode cX10_gate 110 = .ok (.invokevirtual 52, 3) := by decide +kernel
theorem dX10_gate_113 : decode cX10_gate 113 = .ok (.ireturn, 1) := by decide +kernel
theorem dX10_gate_114 : decode cX10_gate 114 = .ok (.aload_n 0, 1) := by decide +kernel
theorem dX10_gate_115 : decode cX10_gate 115 = .ok (.iload_n 1, 1) := by decide +kernel
theorem dX10_gate_116 : decode cX10_gate 116 = .ok (.bipush 11, 2) := by decide +kernel
theorem dX10_gate_118 : decode cX10_gate 118 = .ok (.invokevirtual 52, 3) := by decide +kernel
theorem dX10_gate_121 : decode cX10_gate 121 = .ok (.ireturn, 1) := by decide +kernel
theorem dX10_gate_122 : decode cX10_gate 122 = .ok (.aload_n 0, 1) := by decide +kernel
theorem dX10_gate_123 : decode cX10_gate 123 = .ok (.iload_n 1, 1) := by decide +kernel
theorem dX10_gate_124 : decode cX10_gate 124 = .ok (.bipush 12, 2) := by decide +kernel
theorem dX10_gate_126 : decode cX10_gate 126 = .ok (.invokevirtual 52, 3) := by decide +kernel
theorem dX10_gate_129 : decode cX10_gate 129 = .ok (.ireturn, 1) := by decide +kernel
theorem dX10_gate_130 : decode cX10_gate 130 = .ok (.aload_n 0, 1) := by decide +kernel
theorem dX10_gate_131 : decode cX10_gate 131 = .ok (.iload_n 1, 1) := by decide +kernel
theorem dX10_gate_132 : decode cX10_gate 132 = .ok (.bipush 13, 2) := by decide +kernel
theorem dX10_gate_134 : decode cX10_gate 134 = .ok (.invokevirtual 52, 3) := by decide +kernel
theorem dX10_gate_137 : decode cX10_gate 137 = .ok (.ireturn, 1) := by decide +kernel
theorem dX10_gate_138 : decode cX10_gate 138 = .ok (.aload_n 0, 1) := by decide +kernel
theorem dX10_gate_139 : decode cX10_gate 139 = .ok (.iload_n 1, 1) := by decide +kernel
theorem dX10_gate_140 : decode cX10_gate 140 = .ok (.bipush 9, 2) := by decide +kernel
theorem dX10_gate_142 : decode cX10_gate 142 = .ok (.invokevirtual 52, 3) := by decide +kernel
theorem dX10_gate_145 : decode cX10_gate 145 = .ok (.ireturn, 1) := by decide +kernel
theorem dX10_gate_146 : decode cX10_gate 146 = .ok (.bipush (-2), 2) := by decide +kernel
theorem dX10_gate_148 : decode cX10_gate 148 = .ok (.ireturn, 1) := by decide +kernel
set_option maxRecDepth 20000 in
theorem ggX10_queued_X10_noGate : GoodIn wsX10_queued wsX10_noGate := goodIn_r _ [5, 6, 7, 8, 4, 9, 22, 23, 24, 25, 26, 27, 28, 29, 30, 31] (by decide +kernel) (by decide +kernel)
set_option maxRecDepth 20000 in
theorem gX10_queued_X10_noGate : GoodIn wsX10_queued (wsV RX10 48 RX10 yX10_noGate wsX10_noGate) := goodIn_app (goodIn_of _ (by decide +kernel)) ggX10_queued_X10_noGate
set_option maxRecDepth 20000 in
theorem ggX10_queued_X10_in : GoodIn wsX10_queued wsX10_in := goodIn_r _ [9] (by decide +kernel) (by decide +kernel)
set_option maxRecDepth 20000 in
theorem gX10_queued_X10_in : GoodIn wsX10_queued (va_wsS RX10 34 yX10_in wsX10_in) := goodIn_app (goodIn_of _ (by decide +kernel)) ggX10_queued_X10_in
set_option maxRecDepth 20000 in
theorem ggX10_queued_X10_queuedAt : GoodIn wsX10_queued wsX10_queuedAt := goodIn_r _ [13, 6, 14, 15, 16, 4, 17, 18, 19, 20, 21, 22, 23, 24, 25, 26, 27, 28, 29, 30, 31] (by decide +kernel) (by decide +kernel)
set_option maxRecDepth 20000 in
theorem gX10_queued_X10_queuedAt : GoodIn wsX10_queued (wsV RX10 89 RX10 yX10_queuedAt wsX10_queuedAt) := goodIn_app (goodIn_of _ (by decide +kernel)) ggX10_queued_X10_queuedAt
theorem dX10_queued_0 : decode cX10_queued 0 = .ok (.aload_n 0, 1) := by decide +kernel
theorem dX10_queued_1 : decode cX10_queued 1 = .ok (.iload_n 1, 1) := by decide +kernel
theorem dX10_queued_2 : decode cX10_queued 2 = .ok (.invokevirtual 48, 3) := by decide +kernel
theorem dX10_queued_5 : decode cX10_queued 5 = .ok (.ifCond .eq 5, 3) := by decide +kernel
theorem dX10_queued_8 : decode cX10_queued 8 = .ok (.iconst (-1), 1) := by decide +kernel
theorem dX10_queued_9 : decode cX10_queued 9 = .ok (.ireturn, 1) := by decide +kernel
theorem dX10_queued_10 : decode cX10_queued 10 = .ok (.iload_n 2, 1) := by decide +kernel
theorem dX10_queued_11 : decode cX10_queued 11 = .ok (.iconst 0, 1) := by decide +kernel
theorem dX10_queued_12 : decode cX10_queued 12 = .ok (.iconst 1, 1) := by decide +kernel
theorem dX10_queued_13 : decode cX10_queued 13 = .ok (.invokestatic 34, 3) := by decide +kernel
theorem dX10_queued_16 : decode cX10_queued 16 = .ok (.ifCond .eq 17, 3) := by decide +kernel
theorem dX10_queued_19 : decode cX10_queued 19 = .ok (.iload_n 3, 1) := by decide +kernel
theorem dX10_queued_20 : decode cX10_queued 20 = .ok (.ifCond .lt 13, 3) := by decide +kernel
theorem dX10_queued_23 : decode cX10_queued 23 = .ok (.aload_n 0, 1) := by decide +kernel
theorem dX10_queued_24 : decode cX10_queued 24 = .ok (.iload_n 1, 1) := by decide +kernel
theorem dX10_queued_25 : decode cX10_queued 25 = .ok (.iload_n 2, 1) := by decide +kernel
theorem dX10_queued_26 : decode cX10_queued 26 = .ok (.iload_n 3, 1) := by decide +kernel
theorem dX10_queued_27 : decode cX10_queued 27 = .ok (.invokevirtual 89, 3) := by decide +kernel
theorem dX10_queued_30 : decode cX10_queued 30 = .ok (.goto 5, 3) := by decide +kernel
theorem dX10_queued_33 : decode cX10_queued 33 = .ok (.bipush (-2), 2) := by decide +kernel
theorem dX10_queued_35 : decode cX10_queued 35 = .ok (.ireturn, 1) := by decide +kernel
set_option maxRecDepth 20000 in
theorem ggX10_person_X10_noPerson : GoodIn wsX10_person wsX10_noPerson := goodIn_r _ [5, 6, 7, 8, 4, 9, 18, 19, 20, 21, 22, 23, 24, 25, 26, 27] (by decide +kernel) (by decide +kernel)
set_option maxRecDepth 20000 in
theorem gX10_person_X10_noPerson : GoodIn wsX10_person (wsV RX10 80 RX10 yX10_noPerson wsX10_noPerson) := goodIn_app (goodIn_of _ (by decide +kernel)) ggX10_person_X10_noPerson
set_option maxRecDepth 20000 in
theorem ggX10_person_X10_of : GoodIn wsX10_person wsX10_of := goodIn_r _ [13, 6, 18, 19, 20, 21, 22, 23, 24, 25, 26, 27] (by decide +kernel) (by decide +kernel)
set_option maxRecDepth 20000 in
theorem gX10_person_X10_of : GoodIn wsX10_person (wsV RX10 64 RX10 yX10_of wsX10_of) := goodIn_app (goodIn_of _ (by decide +kernel)) ggX10_person_X10_of
set_option maxRecDepth 20000 in
theorem ggX10_person_X10_waited : GoodIn wsX10_person wsX10_waited := goodIn_r _ [17, 6, 10, 11, 12, 4, 13, 18, 19, 20, 21, 22, 23, 24, 25, 26, 27] (by decide +kernel) (by decide +kernel)
set_option maxRecDepth 20000 in
theorem gX10_person_X10_waited : GoodIn wsX10_person (wsV RX10 110 RX10 yX10_waited wsX10_waited) := goodIn_app (goodIn_of _ (by decide +kernel)) ggX10_person_X10_waited
theorem dX10_person_0 : decode cX10_person 0 = .ok (.aload_n 0, 1) := by decide +kernel
theorem dX10_person_1 : decode cX10_person 1 = .ok (.iload_n 1, 1) := by decide +kernel
theorem dX10_person_2 : decode cX10_person 2 = .ok (.invokevirtual 80, 3) := by decide +kernel
theorem dX10_person_5 : decode cX10_person 5 = .ok (.ifCond .eq 5, 3) := by decide +kernel
theorem dX10_person_8 : decode cX10_person 8 = .ok (.iconst (-1), 1) := by decide +kernel
theorem dX10_person_9 : decode cX10_person 9 = .ok (.ireturn, 1) := by decide +kernel
theorem dX10_person_10 : decode cX10_person 10 = .ok (.aload_n 0, 1) := by decide +kernel
theorem dX10_person_11 : decode cX10_person 11 = .ok (.iload_n 1, 1) := by decide +kernel
theorem dX10_person_12 : decode cX10_person 12 = .ok (.iconst 0, 1) := by decide +kernel
theorem dX10_person_13 : decode cX10_person 13 = .ok (.invokevirtual 64, 3) := by decide +kernel
theorem dX10_person_16 : decode cX10_person 16 = .ok (.istore_n 3, 1) := by decide +kernel
theorem dX10_person_17 : decode cX10_person 17 = .ok (.iload_n 2, 1) := by decide +kernel
theorem dX10_person_18 : decode cX10_person 18 = .ok (.tableswitch 88 0 5 #[38, 40, 47, 54, 61, 68], 38) := by decide +kernel
theorem dX10_person_56 : decode cX10_person 56 = .ok (.iload_n 3, 1) := by decide +kernel
theorem dX10_person_57 : decode cX10_person 57 = .ok (.ireturn, 1) := by decide +kernel
theorem dX10_person_58 : decode cX10_person 58 = .ok (.aload_n 0, 1) := by decide +kernel
theorem dX10_person_59 : decode cX10_person 59 = .ok (.iload_n 1, 1) := by decide +kernel
theorem dX10_person_60 : decode cX10_person 60 = .ok (.iconst 1, 1) := by decide +kernel
theorem dX10_person_61 : decode cX10_person 61 = .ok (.invokevirtual 64, 3) := by decide +kernel
theorem dX10_person_64 : decode cX10_person 64 = .ok (.ireturn, 1) := by decide +kernel
theorem dX10_person_65 : decode cX10_person 65 = .ok (.aload_n 0, 1) := by decide +kernel
theorem dX10_person_66 : decode cX10_person 66 = .ok (.iload_n 1, 1) := by decide +kernel
theorem dX10_person_67 : decode cX10_person 67 = .ok (.iconst 2, 1) := by decide +kernel
theorem dX10_person_68 : decode cX10_person 68 = .ok (.invokevirtual 64, 3) := by decide +kernel
theorem dX10_person_71 : decode cX10_person 71 = .ok (.ireturn, 1) := by decide +kernel
theorem dX10_person_72 : decode cX10_person 72 = .ok (.aload_n 0, 1) := by decide +kernel
theorem dX10_person_73 : decode cX10_person 73 = .ok (.iload_n 1, 1) := by decide +kernel
theorem dX10_person_74 : decode cX10_person 74 = .ok (.iconst 3, 1) := by decide +kernel
theorem dX10_person_75 : decode cX10_person 75 = .ok (.invokevirtual 64, 3) := by decide +kernel
theorem dX10_person_78 : decode cX10_person 78 = .ok (.ireturn, 1) := by decide +kernel
theorem dX10_person_79 : decode cX10_person 79 = .ok (.aload_n 0, 1) := by decide +kernel
theorem dX10_person_80 : decode cX10_person 80 = .ok (.iload_n 1, 1) := by decide +kernel
theorem dX10_person_81 : decode cX10_person 81 = .ok (.iconst 4, 1) := by decide +kernel
theorem dX10_person_82 : decode cX10_person 82 = .ok (.invokevirtual 64, 3) := by decide +kernel
theorem dX10_person_85 : decode cX10_person 85 = .ok (.ireturn, 1) := by decide +kernel
theorem dX10_person_86 : decode cX10_person 86 = .ok (.iload_n 3, 1) := by decide +kernel
theorem dX10_person_87 : decode cX10_person 87 = .ok (.iconst 1, 1) := by decide +kernel
theorem dX10_person_88 : decode cX10_person 88 = .ok (.if_icmp .eq 8, 3) := by decide +kernel
theorem dX10_person_91 : decode cX10_person 91 = .ok (.iload_n 3, 1) := by decide +kernel
theorem dX10_person_92 : decode cX10_person 92 = .ok (.iconst 4, 1) := by decide +kernel
theorem dX10_person_93 : decode cX10_person 93 = .ok (.if_icmp .ne 11, 3) := by decide +kernel
theorem dX10_person_96 : decode cX10_person 96 = .ok (.aload_n 0, 1) := by decide +kernel
theorem dX10_person_97 : decode cX10_person 97 = .ok (.iload_n 1, 1) := by decide +kernel
theorem dX10_person_98 : decode cX10_person 98 = .ok (.invokevirtual 110, 3) := by decide +kernel
theorem dX10_person_101 : decode cX10_person 101 = .ok (.goto 4, 3) := by decide +kernel
theorem dX10_person_104 : decode cX10_person 104 = .ok (.iconst 0, 1) := by decide +kernel
theorem dX10_person_105 : decode cX10_person 105 = .ok (.ireturn, 1) := by decide +kernel
theorem dX10_person_106 : decode cX10_person 106 = .ok (.bipush (-2), 2) := by decide +kernel
theorem dX10_person_108 : decode cX10_person 108 = .ok (.ireturn, 1) := by decide +kernel
set_option maxRecDepth 20000 in
theorem ggX10_pool_X10_noPool : GoodIn wsX10_pool wsX10_noPool := goodIn_r _ [6, 1, 7, 8, 5, 9, 22, 23, 24, 25, 26, 27, 28, 29, 30, 31] (by decide +kernel) (by decide +kernel)
set_option maxRecDepth 20000 in
theorem gX10_pool_X10_noPool : GoodIn wsX10_pool (wsV RX10 56 RX10 yX10_noPool wsX10_noPool) := goodIn_app (goodIn_of _ (by decide +kernel)) ggX10_pool_X10_noPool
set_option maxRecDepth 20000 in
theorem ggX10_pool_X10_insideBy : GoodIn wsX10_pool wsX10_insideBy := goodIn_r _ [13, 1, 14, 15, 16, 5, 17, 18, 19, 20, 21, 7, 8, 9, 22, 23, 24, 25, 26, 27, 28, 29, 30, 31] (by decide +kernel) (by decide +kernel)
set_option maxRecDepth 20000 in
theorem gX10_pool_X10_insideBy : GoodIn wsX10_pool (wsV RX10 107 RX10 yX10_insideBy wsX10_insideBy) := goodIn_app (goodIn_of _ (by decide +kernel)) ggX10_pool_X10_insideBy
theorem dX10_pool_0 : decode cX10_pool 0 = .ok (.aload_n 0, 1) := by decide +kernel
theorem dX10_pool_1 : decode cX10_pool 1 = .ok (.iload_n 1, 1) := by decide +kernel
theorem dX10_pool_2 : decode cX10_pool 2 = .ok (.invokevirtual 56, 3) := by decide +kernel
theorem dX10_pool_5 : decode cX10_pool 5 = .ok (.ifCond .eq 5, 3) := by decide +kernel
theorem dX10_pool_8 : decode cX10_pool 8 = .ok (.iconst (-1), 1) := by decide +kernel
theorem dX10_pool_9 : decode cX10_pool 9 = .ok (.ireturn, 1) := by decide +kernel
theorem dX10_pool_10 : decode cX10_pool 10 = .ok (.iconst 0, 1) := by decide +kernel
theorem dX10_pool_11 : decode cX10_pool 11 = .ok (.istore_n 3, 1) := by decide +kernel
theorem dX10_pool_12 : decode cX10_pool 12 = .ok (.iconst 0, 1) := by decide +kernel
theorem dX10_pool_13 : decode cX10_pool 13 = .ok (.istore 4, 2) := by decide +kernel
theorem dX10_pool_15 : decode cX10_pool 15 = .ok (.iload 4, 2) := by decide +kernel
theorem dX10_pool_17 : decode cX10_pool 17 = .ok (.aload_n 0, 1) := by decide +kernel
theorem dX10_pool_18 : decode cX10_pool 18 = .ok (.getfield 7, 3) := by decide +kernel
theorem dX10_pool_21 : decode cX10_pool 21 = .ok (.iconst 3, 1) := by decide +kernel
theorem dX10_pool_22 : decode cX10_pool 22 = .ok (.iaload, 1) := by decide +kernel
theorem dX10_pool_23 : decode cX10_pool 23 = .ok (.if_icmp .ge 34, 3) := by decide +kernel
theorem dX10_pool_26 : decode cX10_pool 26 = .ok (.iload_n 3, 1) := by decide +kernel
theorem dX10_pool_27 : decode cX10_pool 27 = .ok (.aload_n 0, 1) := by decide +kernel
theorem dX10_pool_28 : decode cX10_pool 28 = .ok (.getfield 7, 3) := by decide +kernel
theorem dX10_pool_31 : decode cX10_pool 31 = .ok (.sipush 400, 3) := by decide +kernel
theorem dX10_pool_34 : decode cX10_pool 34 = .ok (.iconst 2, 1) := by decide +kernel
theorem dX10_pool_35 : decode cX10_pool 35 = .ok (.iload 4, 2) := by decide +kernel
theorem dX10_pool_37 : decode cX10_pool 37 = .ok (.imul, 1) := by decide +kernel
theorem dX10_pool_38 : decode cX10_pool 38 = .ok (.iadd, 1) := by decide +kernel
theorem dX10_pool_39 : decode cX10_pool 39 = .ok (.iaload, 1) := by decide +kernel
theorem dX10_pool_40 : decode cX10_pool 40 = .ok (.iload_n 1, 1) := by decide +kernel
theorem dX10_pool_41 : decode cX10_pool 41 = .ok (.if_icmp .ne 7, 3) := by decide +kernel
theorem dX10_pool_44 : decode cX10_pool 44 = .ok (.iconst 1, 1) := by decide +kernel
theorem dX10_pool_45 : decode cX10_pool 45 = .ok (.goto 4, 3) := by decide +kernel
theorem dX10_pool_48 : decode cX10_pool 48 = .ok (.iconst 0, 1) := by decide +kernel
theorem dX10_pool_49 : decode cX10_pool 49 = .ok (.iadd, 1) := by decide +kernel
theorem dX10_pool_50 : decode cX10_pool 50 = .ok (.istore_n 3, 1) := by decide +kernel
theorem dX10_pool_51 : decode cX10_pool 51 = .ok (.iinc 4 1, 3) := by decide +kernel
theorem dX10_pool_54 : decode cX10_pool 54 = .ok (.goto (-39), 3) := by decide +kernel
theorem dX10_pool_57 : decode cX10_pool 57 = .ok (.iload_n 2, 1) := by decide +kernel
theorem dX10_pool_58 : decode cX10_pool 58 = .ok (.tableswitch 72 0 4 #[34, 34, 49, 55, 57], 34) := by decide +kernel
theorem dX10_pool_92 : decode cX10_pool 92 = .ok (.aload_n 0, 1) := by decide +kernel
theorem dX10_pool_93 : decode cX10_pool 93 = .ok (.getfield 7, 3) := by decide +kernel
theorem dX10_pool_96 : decode cX10_pool 96 = .ok (.sipush 424, 3) := by decide +kernel
theorem dX10_pool_99 : decode cX10_pool 99 = .ok (.iconst 3, 1) := by decide +kernel
theorem dX10_pool_100 : decode cX10_pool 100 = .ok (.iload_n 1, 1) := by decide +kernel
theorem dX10_pool_101 : decode cX10_pool 101 = .ok (.imul, 1) := by decide +kernel
theorem dX10_pool_102 : decode cX10_pool 102 = .ok (.iadd, 1) := by decide +kernel
theorem dX10_pool_103 : decode cX10_pool 103 = .ok (.iload_n 2, 1) := by decide +kernel
theorem dX10_pool_104 : decode cX10_pool 104 = .ok (.iadd, 1) := by decide +kernel
theorem dX10_pool_105 : decode cX10_pool 105 = .ok (.iaload, 1) := by decide +kernel
theorem dX10_pool_106 : decode cX10_pool 106 = .ok (.ireturn, 1) := by decide +kernel
theorem dX10_pool_107 : decode cX10_pool 107 = .ok (.aload_n 0, 1) := by decide +kernel
theorem dX10_pool_108 : decode cX10_pool 108 = .ok (.iload_n 1, 1) := by decide +kernel
theorem dX10_pool_109 : decode cX10_pool 109 = .ok (.invokevirtual 107, 3) := by decide +kernel
theorem dX10_pool_112 : decode cX10_pool 112 = .ok (.ireturn, 1) := by decide +kernel
theorem dX10_pool_113 : decode cX10_pool 113 = .ok (.iload_n 3, 1) := by decide +kernel
theorem dX10_pool_114 : decode cX10_pool 114 = .ok (.ireturn, 1) := by decide +kernel
theorem dX10_pool_115 : decode cX10_pool 115 = .ok (.aload_n 0, 1) := by decide +kernel
theorem dX10_pool_116 : decode cX10_pool 116 = .ok (.getfield 7, 3) := by decide +kernel
theorem dX10_pool_119 : decode cX10_pool 119 = .ok (.sipush 424, 3) := by decide +kernel
theorem dX10_pool_122 : decode cX10_pool 122 = .ok (.iconst 3, 1) := by decide +kernel
theorem dX10_pool_123 : decode cX10_pool 123 = .ok (.iload_n 1, 1) := by decide +kernel
theorem dX10_pool_124 : decode cX10_pool 124 = .ok (.imul, 1) := by decide +kernel
theorem dX10_pool_125 : decode cX10_pool 125 = .ok (.iadd, 1) := by decide +kernel
theorem dX10_pool_126 : decode cX10_pool 126 = .ok (.iconst 2, 1) := by decide +kernel
theorem dX10_pool_127 : decode cX10_pool 127 = .ok (.iadd, 1) := by decide +kernel
theorem dX10_pool_128 : decode cX10_pool 128 = .ok (.iaload, 1) := by decide +kernel
theorem dX10_pool_129 : decode cX10_pool 129 = .ok (.ireturn, 1) := by decide +kernel
theorem dX10_pool_130 : decode cX10_pool 130 = .ok (.bipush (-2), 2) := by decide +kernel
theorem dX10_pool_132 : decode cX10_pool 132 = .ok (.ireturn, 1) := by decide +kernel
set_option maxRecDepth 20000 in
theorem ggX10_passOf_X10_noPass : GoodIn wsX10_passOf wsX10_noPass := goodIn_r _ [6, 1, 7, 8, 5, 9, 18, 19, 20, 21, 22, 23, 24, 25, 26, 27] (by decide +kernel) (by decide +kernel)
set_option maxRecDepth 20000 in
theorem gX10_passOf_X10_noPass : GoodIn wsX10_passOf (wsV RX10 61 RX10 yX10_noPass wsX10_noPass) := goodIn_app (goodIn_of _ (by decide +kernel)) ggX10_passOf_X10_noPass
set_option maxRecDepth 20000 in
theorem ggX10_passOf_X10_in : GoodIn wsX10_passOf wsX10_in := goodIn_r _ [9] (by decide +kernel) (by decide +kernel)
set_option maxRecDepth 20000 in
theorem gX10_passOf_X10_in : GoodIn wsX10_passOf (va_wsS RX10 34 yX10_in wsX10_in) := goodIn_app (goodIn_of _ (by decide +kernel)) ggX10_passOf_X10_in
set_option maxRecDepth 20000 in
theorem ggX10_passOf_X10_userOf : GoodIn wsX10_passOf wsX10_userOf := goodIn_r _ [13, 1, 14, 15, 16, 5, 17, 7, 8, 9, 18, 19, 20, 21, 22, 23, 24, 25, 26, 27] (by decide +kernel) (by decide +kernel)
set_option maxRecDepth 20000 in
theorem gX10_passOf_X10_userOf : GoodIn wsX10_passOf (wsV RX10 104 RX10 yX10_userOf wsX10_userOf) := goodIn_app (goodIn_of _ (by decide +kernel)) ggX10_passOf_X10_userOf
theorem dX10_passOf_0 : decode cX10_passOf 0 = .ok (.aload_n 0, 1) := by decide +kernel
theorem dX10_passOf_1 : decode cX10_passOf 1 = .ok (.iload_n 1, 1) := by decide +kernel
theorem dX10_passOf_2 : decode cX10_passOf 2 = .ok (.invokevirtual 61, 3) := by decide +kernel
theorem dX10_passOf_5 : decode cX10_passOf 5 = .ok (.ifCond .eq 5, 3) := by decide +kernel
theorem dX10_passOf_8 : decode cX10_passOf 8 = .ok (.iconst (-1), 1) := by decide +kernel
theorem dX10_passOf_9 : decode cX10_passOf 9 = .ok (.ireturn, 1) := by decide +kernel
theorem dX10_passOf_10 : decode cX10_passOf 10 = .ok (.iload_n 2, 1) := by decide +kernel
theorem dX10_passOf_11 : decode cX10_passOf 11 = .ok (.iconst 0, 1) := by decide +kernel
theorem dX10_passOf_12 : decode cX10_passOf 12 = .ok (.iconst 1, 1) := by decide +kernel
theorem dX10_passOf_13 : decode cX10_passOf 13 = .ok (.invokestatic 34, 3) := by decide +kernel
theorem dX10_passOf_16 : decode cX10_passOf 16 = .ok (.ifCond .eq 20, 3) := by decide +kernel
theorem dX10_passOf_19 : decode cX10_passOf 19 = .ok (.aload_n 0, 1) := by decide +kernel
theorem dX10_passOf_20 : decode cX10_passOf 20 = .ok (.getfield 7, 3) := by decide +kernel
theorem dX10_passOf_23 : decode cX10_passOf 23 = .ok (.sipush 400, 3) := by decide +kernel
theorem dX10_passOf_26 : decode cX10_passOf 26 = .ok (.iconst 2, 1) := by decide +kernel
theorem dX10_passOf_27 : decode cX10_passOf 27 = .ok (.iload_n 1, 1) := by decide +kernel
theorem dX10_passOf_28 : decode cX10_passOf 28 = .ok (.imul, 1) := by decide +kernel
theorem dX10_passOf_29 : decode cX10_passOf 29 = .ok (.iadd, 1) := by decide +kernel
theorem dX10_passOf_30 : decode cX10_passOf 30 = .ok (.iload_n 2, 1) := by decide +kernel
theorem dX10_passOf_31 : decode cX10_passOf 31 = .ok (.iadd, 1) := by decide +kernel
theorem dX10_passOf_32 : decode cX10_passOf 32 = .ok (.iaload, 1) := by decide +kernel
theorem dX10_passOf_33 : decode cX10_passOf 33 = .ok (.goto 18, 3) := by decide +kernel
theorem dX10_passOf_36 : decode cX10_passOf 36 = .ok (.iload_n 2, 1) := by decide +kernel
theorem dX10_passOf_37 : decode cX10_passOf 37 = .ok (.iconst 2, 1) := by decide +kernel
theorem dX10_passOf_38 : decode cX10_passOf 38 = .ok (.if_icmp .ne 11, 3) := by decide +kernel
theorem dX10_passOf_41 : decode cX10_passOf 41 = .ok (.aload_n 0, 1) := by decide +kernel
theorem dX10_passOf_42 : decode cX10_passOf 42 = .ok (.iload_n 1, 1) := by decide +kernel
theorem dX10_passOf_43 : decode cX10_passOf 43 = .ok (.invokevirtual 104, 3) := by decide +kernel
theorem dX10_passOf_46 : decode cX10_passOf 46 = .ok (.goto 5, 3) := by decide +kernel
theorem dX10_passOf_49 : decode cX10_passOf 49 = .ok (.bipush (-2), 2) := by decide +kernel
theorem dX10_passOf_51 : decode cX10_passOf 51 = .ok (.ireturn, 1) := by decide +kernel
set_option maxRecDepth 20000 in
theorem ggX10_event_X10_in : GoodIn wsX10_event wsX10_in := goodIn_r _ [5] (by decide +kernel) (by decide +kernel)
set_option maxRecDepth 20000 in
theorem gX10_event_X10_in : GoodIn wsX10_event (va_wsS RX10 34 yX10_in wsX10_in) := goodIn_app (goodIn_of _ (by decide +kernel)) ggX10_event_X10_in
theorem dX10_event_0 : decode cX10_event 0 = .ok (.iload_n 1, 1) := by decide +kernel
theorem dX10_event_1 : decode cX10_event 1 = .ok (.ifCond .lt 12, 3) := by decide +kernel
theorem dX10_event_4 : decode cX10_event 4 = .ok (.iload_n 2, 1) := by decide +kernel
theorem dX10_event_5 : decode cX10_event 5 = .ok (.iconst 0, 1) := by decide +kernel
theorem dX10_event_6 : decode cX10_event 6 = .ok (.iconst 3, 1) := by decide +kernel
theorem dX10_event_7 : decode cX10_event 7 = .ok (.invokestatic 34, 3) := by decide +kernel
theorem dX10_event_10 : decode cX10_event 10 = .ok (.ifCond .ne 6, 3) := by decide +kernel
theorem dX10_event_13 : decode cX10_event 13 = .ok (.bipush (-2), 2) := by decide +kernel
theorem dX10_event_15 : decode cX10_event 15 = .ok (.ireturn, 1) := by decide +kernel
theorem dX10_event_16 : decode cX10_event 16 = .ok (.iload_n 1, 1) := by decide +kernel
theorem dX10_event_17 : decode cX10_event 17 = .ok (.aload_n 0, 1) := by decide +kernel
theorem dX10_event_18 : decode cX10_event 18 = .ok (.getfield 7, 3) := by decide +kernel
theorem dX10_event_21 : decode cX10_event 21 = .ok (.iconst 5, 1) := by decide +kernel
theorem dX10_event_22 : decode cX10_event 22 = .ok (.iaload, 1) := by decide +kernel
theorem dX10_event_23 : decode cX10_event 23 = .ok (.if_icmp .ge 20, 3) := by decide +kernel
theorem dX10_event_26 : decode cX10_event 26 = .ok (.aload_n 0, 1) := by decide +kernel
theorem dX10_event_27 : decode cX10_event 27 = .ok (.getfield 7, 3) := by decide +kernel
theorem dX10_event_30 : decode cX10_event 30 = .ok (.sipush 436, 3) := by decide +kernel
theorem dX10_event_33 : decode cX10_event 33 = .ok (.iconst 4, 1) := by decide +kernel
theorem dX10_event_34 : decode cX10_event 34 = .ok (.iload_n 1, 1) := by decide +kernel
theorem dX10_event_35 : decode cX10_event 35 = .ok (.imul, 1) := by decide +kernel
theorem dX10_event_36 : decode cX10_event 36 = .ok (.iadd, 1) := by decide +kernel
theorem dX10_event_37 : decode cX10_event 37 = .ok (.iload_n 2, 1) := by decide +kernel
theorem dX10_event_38 : decode cX10_event 38 = .ok (.iadd, 1) := by decide +kernel
theorem dX10_event_39 : decode cX10_event 39 = .ok (.iaload, 1) := by decide +kernel
theorem dX10_event_40 : decode cX10_event 40 = .ok (.goto 5, 3) := by decide +kernel
theorem dX10_event_43 : decode cX10_event 43 = .ok (.bipush (-5), 2) := by decide +kernel
theorem dX10_event_45 : decode cX10_event 45 = .ok (.ireturn, 1) := by decide +kernel
set_option maxRecDepth 20000 in
theorem ggX10_passesIn_X10_noPerson : GoodIn wsX10_passesIn wsX10_noPerson := goodIn_r _ [5, 6, 7, 8, 4, 9, 103, 104, 105, 106, 107, 108, 109, 110, 111, 112] (by decide +kernel) (by decide +kernel)
set_option maxRecDepth 20000 in
theorem gX10_passesIn_X10_noPerson : GoodIn wsX10_passesIn (wsV RX10 80 RX10 yX10_noPerson wsX10_noPerson) := goodIn_app (goodIn_of _ (by decide +kernel)) ggX10_passesIn_X10_noPerson
set_option maxRecDepth 20000 in
theorem ggX10_passesIn_X10_of : GoodIn wsX10_passesIn wsX10_of := goodIn_r _ [13, 6, 103, 104, 105, 106, 107, 108, 109, 110, 111, 112] (by decide +kernel) (by decide +kernel)
set_option maxRecDepth 20000 in
theorem gX10_passesIn_X10_of : GoodIn wsX10_passesIn (wsV RX10 64 RX10 yX10_of wsX10_of) := goodIn_app (goodIn_of _ (by decide +kernel)) ggX10_passesIn_X10_of
set_option maxRecDepth 20000 in
theorem ggX10_passesIn_X10_begin : GoodIn wsX10_passesIn wsX10_begin := goodIn_r _ [17, 18, 6, 103, 104, 105, 106, 107, 108, 109, 110, 111, 112] (by decide +kernel) (by decide +kernel)
set_option maxRecDepth 20000 in
theorem gX10_passesIn_X10_begin : GoodIn wsX10_passesIn (wsV RX10 38 RX10 yX10_begin wsX10_begin) := goodIn_app (goodIn_of _ (by decide +kernel)) ggX10_passesIn_X10_begin
set_option maxRecDepth 20000 in
theorem ggX10_passesIn_X10_tick : GoodIn wsX10_passesIn wsX10_tick := goodIn_r _ [22, 6, 23, 24, 25, 4, 26, 27, 28, 29, 30, 31, 32, 33, 34, 35, 36, 37, 38, 39, 40, 41, 42, 43, 44, 45, 46, 10, 11, 12, 13, 47, 48, 49, 50, 51, 52, 53, 54, 55, 56, 57, 58, 7, 8, 9, 59, 60, 61, 62, 63, 64, 65, 66, 67, 68, 69, 70, 71, 72, 73, 74, 75, 76, 77, 78, 79, 80, 81, 82, 83, 84, 85, 86, 87, 88, 89, 90, 91, 92, 93, 94, 95, 96, 97, 98, 103, 104, 105, 106, 107, 108, 109, 110, 111, 112] (by decide +kernel) (by decide +kernel)
set_option maxRecDepth 20000 in
theorem gX10_passesIn_X10_tick : GoodIn wsX10_passesIn (wsV RX10 141 RX10 yX10_tick wsX10_tick) := goodIn_app (goodIn_of _ (by decide +kernel)) ggX10_passesIn_X10_tick
set_option maxRecDepth 20000 in
theorem ggX10_passesIn_X10_goBack : GoodIn wsX10_passesIn wsX10_goBack := goodIn_r _ [102, 6, 18, 103, 104, 105, 106, 107, 108, 109, 110, 111, 112] (by decide +kernel) (by decide +kernel)
set_option maxRecDepth 20000 in
theorem gX10_passesIn_X10_goBack : GoodIn wsX10_passesIn (wsV RX10 186 RX10 yX10_goBack wsX10_goBack) := goodIn_app (goodIn_of _ (by decide +kernel)) ggX10_passesIn_X10_goBack
theorem dX10_passesIn_0 : decode cX10_passesIn 0 = .ok (.aload_n 0, 1) := by decide +kernel
theorem dX10_passesIn_1 : decode cX10_passesIn 1 = .ok (.iload_n 1, 1) := by decide +kernel
theorem dX10_passesIn_2 : decode cX10_passesIn 2 = .ok (.invokevirtual 80, 3) := by decide +kernel
theorem dX10_passesIn_5 : decode cX10_passesIn 5 = .ok (.ifCond .eq 5, 3) := by decide +kernel
theorem dX10_passesIn_8 : decode cX10_passesIn 8 = .ok (.iconst (-1), 1) := by decide +kernel
theorem dX10_passesIn_9 : decode cX10_passesIn 9 = .ok (.ireturn, 1) := by decide +kernel
theorem dX10_passesIn_10 : decode cX10_passesIn 10 = .ok (.aload_n 0, 1) := by decide +kernel
theorem dX10_passesIn_11 : decode cX10_passesIn 11 = .ok (.iload_n 1, 1) := by decide +kernel
theorem dX10_passesIn_12 : decode cX10_passesIn 12 = .ok (.iconst 0, 1) := by decide +kernel
theorem dX10_passesIn_13 : decode cX10_passesIn 13 = .ok (.invokevirtual 64, 3) := by decide +kernel
theorem dX10_passesIn_16 : decode cX10_passesIn 16 = .ok (.istore_n 2, 1) := by decide +kernel
theorem dX10_passesIn_17 : decode cX10_passesIn 17 = .ok (.iload_n 2, 1) := by decide +kernel
theorem dX10_passesIn_18 : decode cX10_passesIn 18 = .ok (.iconst 1, 1) := by decide +kernel
theorem dX10_passesIn_19 : decode cX10_passesIn 19 = .ok (.if_icmp .eq 16, 3) := by decide +kernel
theorem dX10_passesIn_22 : decode cX10_passesIn 22 = .ok (.iload_n 2, 1) := by decide +kernel
theorem dX10_passesIn_23 : decode cX10_passesIn 23 = .ok (.iconst 2, 1) := by decide +kernel
theorem dX10_passesIn_24 : decode cX10_passesIn 24 = .ok (.if_icmp .eq 11, 3) := by decide +kernel
theorem dX10_passesIn_27 : decode cX10_passesIn 27 = .ok (.iload_n 2, 1) := by decide +kernel
theorem dX10_passesIn_28 : decode cX10_passesIn 28 = .ok (.iconst 4, 1) := by decide +kernel
theorem dX10_passesIn_29 : decode cX10_passesIn 29 = .ok (.if_icmp .eq 6, 3) := by decide +kernel
theorem dX10_passesIn_32 : decode cX10_passesIn 32 = .ok (.bipush (-4), 2) := by decide +kernel
theorem dX10_passesIn_34 : decode cX10_passesIn 34 = .ok (.ireturn, 1) := by decide +kernel
theorem dX10_passesIn_35 : decode cX10_passesIn 35 = .ok (.aload_n 0, 1) := by decide +kernel
theorem dX10_passesIn_36 : decode cX10_passesIn 36 = .ok (.invokevirtual 38, 3) := by decide +kernel
theorem dX10_passesIn_39 : decode cX10_passesIn 39 = .ok (.iconst 0, 1) := by decide +kernel
theorem dX10_passesIn_40 : decode cX10_passesIn 40 = .ok (.istore_n 3, 1) := by decide +kernel
theorem dX10_passesIn_41 : decode cX10_passesIn 41 = .ok (.iload_n 3, 1) := by decide +kernel
theorem dX10_passesIn_42 : decode cX10_passesIn 42 = .ok (.sipush 500, 3) := by decide +kernel
theorem dX10_passesIn_45 : decode cX10_passesIn 45 = .ok (.if_icmp .ge 43, 3) := by decide +kernel
theorem dX10_passesIn_48 : decode cX10_passesIn 48 = .ok (.aload_n 0, 1) := by decide +kernel
theorem dX10_passesIn_49 : decode cX10_passesIn 49 = .ok (.iload_n 1, 1) := by decide +kernel
theorem dX10_passesIn_50 : decode cX10_passesIn 50 = .ok (.iconst 0, 1) := by decide +kernel
theorem dX10_passesIn_51 : decode cX10_passesIn 51 = .ok (.invokevirtual 64, 3) := by decide +kernel
theorem dX10_passesIn_54 : decode cX10_passesIn 54 = .ok (.iconst 1, 1) := by decide +kernel
theorem dX10_passesIn_55 : decode cX10_passesIn 55 = .ok (.if_icmp .eq 23, 3) := by decide +kernel
theorem dX10_passesIn_58 : decode cX10_passesIn 58 = .ok (.aload_n 0, 1) := by decide +kernel
theorem dX10_passesIn_59 : decode cX10_passesIn 59 = .ok (.iload_n 1, 1) := by decide +kernel
theorem dX10_passesIn_60 : decode cX10_passesIn 60 = .ok (.iconst 0, 1) := by decide +kernel
theorem dX10_passesIn_61 : decode cX10_passesIn 61 = .ok (.invokevirtual 64, 3) := by decide +kernel
theorem dX10_passesIn_64 : decode cX10_passesIn 64 = .ok (.iconst 2, 1) := by decide +kernel
theorem dX10_passesIn_65 : decode cX10_passesIn 65 = .ok (.if_icmp .eq 13, 3) := by decide +kernel
theorem dX10_passesIn_68 : decode cX10_passesIn 68 = .ok (.aload_n 0, 1) := by decide +kernel
theorem dX10_passesIn_69 : decode cX10_passesIn 69 = .ok (.iload_n 1, 1) := by decide +kernel
theorem dX10_passesIn_70 : decode cX10_passesIn 70 = .ok (.iconst 0, 1) := by decide +kernel
theorem dX10_passesIn_71 : decode cX10_passesIn 71 = .ok (.invokevirtual 64, 3) := by decide +kernel
theorem dX10_passesIn_74 : decode cX10_passesIn 74 = .ok (.iconst 4, 1) := by decide +kernel
theorem dX10_passesIn_75 : decode cX10_passesIn 75 = .ok (.if_icmp .ne 13, 3) := by decide +kernel
theorem dX10_passesIn_78 : decode cX10_passesIn 78 = .ok (.aload_n 0, 1) := by decide +kernel
theorem dX10_passesIn_79 : decode cX10_passesIn 79 = .ok (.invokevirtual 141, 3) := by decide +kernel
theorem dX10_passesIn_82 : decode cX10_passesIn 82 = .ok (.iinc 3 1, 3) := by decide +kernel
theorem dX10_passesIn_85 : decode cX10_passesIn 85 = .ok (.goto (-44), 3) := by decide +kernel
theorem dX10_passesIn_88 : decode cX10_passesIn 88 = .ok (.aload_n 0, 1) := by decide +kernel
theorem dX10_passesIn_89 : decode cX10_passesIn 89 = .ok (.iload_n 1, 1) := by decide +kernel
theorem dX10_passesIn_90 : decode cX10_passesIn 90 = .ok (.iconst 0, 1) := by decide +kernel
theorem dX10_passesIn_91 : decode cX10_passesIn 91 = .ok (.invokevirtual 64, 3) := by decide +kernel
theorem dX10_passesIn_94 : decode cX10_passesIn 94 = .ok (.istore 4, 2) := by decide +kernel
theorem dX10_passesIn_96 : decode cX10_passesIn 96 = .ok (.aload_n 0, 1) := by decide +kernel
theorem dX10_passesIn_97 : decode cX10_passesIn 97 = .ok (.invokevirtual 186, 3) := by decide +kernel
theorem dX10_passesIn_100 : decode cX10_passesIn 100 = .ok (.iload 4, 2) := by decide +kernel
theorem dX10_passesIn_102 : decode cX10_passesIn 102 = .ok (.iconst 3, 1) := by decide +kernel
theorem dX10_passesIn_103 : decode cX10_passesIn 103 = .ok (.if_icmp .eq 9, 3) := by decide +kernel
theorem dX10_passesIn_106 : decode cX10_passesIn 106 = .ok (.iload 4, 2) := by decide +kernel
theorem dX10_passesIn_108 : decode cX10_passesIn 108 = .ok (.iconst 5, 1) := by decide +kernel
theorem dX10_passesIn_109 : decode cX10_passesIn 109 = .ok (.if_icmp .ne 7, 3) := by decide +kernel
theorem dX10_passesIn_112 : decode cX10_passesIn 112 = .ok (.iload_n 3, 1) := by decide +kernel
theorem dX10_passesIn_113 : decode cX10_passesIn 113 = .ok (.goto 5, 3) := by decide +kernel
theorem dX10_passesIn_116 : decode cX10_passesIn 116 = .ok (.bipush (-5), 2) := by decide +kernel
theorem dX10_passesIn_118 : decode cX10_passesIn 118 = .ok (.ireturn, 1) := by decide +kernel
set_option maxRecDepth 20000 in
theorem ggX10_peopleAt_X10_of : GoodIn wsX10_peopleAt wsX10_of := goodIn_r _ [6, 1, 10, 11, 12, 13, 14, 15, 16, 17, 18, 19] (by decide +kernel) (by decide +kernel)
set_option maxRecDepth 20000 in
theorem gX10_peopleAt_X10_of : GoodIn wsX10_peopleAt (wsV RX10 64 RX10 yX10_of wsX10_of) := goodIn_app (goodIn_of _ (by decide +kernel)) ggX10_peopleAt_X10_of
set_option maxRecDepth 20000 in
theorem ggX10_peopleAt_X10_in : GoodIn wsX10_peopleAt wsX10_in := goodIn_r _ [9] (by decide +kernel) (by decide +kernel)
set_option maxRecDepth 20000 in
theorem gX10_peopleAt_X10_in : GoodIn wsX10_peopleAt (va_wsS RX10 34 yX10_in wsX10_in) := goodIn_app (goodIn_of _ (by decide +kernel)) ggX10_peopleAt_X10_in
theorem dX10_peopleAt_0 : decode cX10_peopleAt 0 = .ok (.iconst 0, 1) := by decide +kernel
theorem dX10_peopleAt_1 : decode cX10_peopleAt 1 = .ok (.istore_n 3, 1) := by decide +kernel
theorem dX10_peopleAt_2 : decode cX10_peopleAt 2 = .ok (.iconst 0, 1) := by decide +kernel
theorem dX10_peopleAt_3 : decode cX10_peopleAt 3 = .ok (.istore 4, 2) := by decide +kernel
theorem dX10_peopleAt_5 : decode cX10_peopleAt 5 = .ok (.iload 4, 2) := by decide +kernel
theorem dX10_peopleAt_7 : decode cX10_peopleAt 7 = .ok (.aload_n 0, 1) := by decide +kernel
theorem dX10_peopleAt_8 : decode cX10_peopleAt 8 = .ok (.getfield 7, 3) := by decide +kernel
theorem dX10_peopleAt_11 : decode cX10_peopleAt 11 = .ok (.iconst 2, 1) := by decide +kernel
theorem dX10_peopleAt_12 : decode cX10_peopleAt 12 = .ok (.iaload, 1) := by decide +kernel
theorem dX10_peopleAt_13 : decode cX10_peopleAt 13 = .ok (.if_icmp .ge 32, 3) := by decide +kernel
theorem dX10_peopleAt_16 : decode cX10_peopleAt 16 = .ok (.iload_n 3, 1) := by decide +kernel
theorem dX10_peopleAt_17 : decode cX10_peopleAt 17 = .ok (.aload_n 0, 1) := by decide +kernel
theorem dX10_peopleAt_18 : decode cX10_peopleAt 18 = .ok (.iload 4, 2) := by decide +kernel
theorem dX10_peopleAt_20 : decode cX10_peopleAt 20 = .ok (.iconst 0, 1) := by decide +kernel
theorem dX10_peopleAt_21 : decode cX10_peopleAt 21 = .ok (.invokevirtual 64, 3) := by decide +kernel
theorem dX10_peopleAt_24 : decode cX10_peopleAt 24 = .ok (.iload_n 1, 1) := by decide +kernel
theorem dX10_peopleAt_25 : decode cX10_peopleAt 25 = .ok (.iload_n 2, 1) := by decide +kernel
theorem dX10_peopleAt_26 : decode cX10_peopleAt 26 = .ok (.invokestatic 34, 3) := by decide +kernel
theorem dX10_peopleAt_29 : decode cX10_peopleAt 29 = .ok (.ifCond .eq 7, 3) := by decide +kernel
theorem dX10_peopleAt_32 : decode cX10_peopleAt 32 = .ok (.iconst 1, 1) := by decide +kernel
theorem dX10_peopleAt_33 : decode cX10_peopleAt 33 = .ok (.goto 4, 3) := by decide +kernel
theorem dX10_peopleAt_36 : decode cX10_peopleAt 36 = .ok (.iconst 0, 1) := by decide +kernel
theorem dX10_peopleAt_37 : decode cX10_peopleAt 37 = .ok (.iadd, 1) := by decide +kernel
theorem dX10_peopleAt_38 : decode cX10_peopleAt 38 = .ok (.istore_n 3, 1) := by decide +kernel
theorem dX10_peopleAt_39 : decode cX10_peopleAt 39 = .ok (.iinc 4 1, 3) := by decide +kernel
theorem dX10_peopleAt_42 : decode cX10_peopleAt 42 = .ok (.goto (-37), 3) := by decide +kernel
theorem dX10_peopleAt_45 : decode cX10_peopleAt 45 = .ok (.iload_n 3, 1) := by decide +kernel
theorem dX10_peopleAt_46 : decode cX10_peopleAt 46 = .ok (.ireturn, 1) := by decide +kernel
set_option maxRecDepth 20000 in
theorem ggX10_longest_X10_queueLength : GoodIn wsX10_longest wsX10_queueLength := goodIn_r _ [6, 1, 7, 8, 9, 5, 10, 11, 12, 13, 14, 15, 16, 17, 18, 19, 20, 21, 22, 23, 24] (by decide +kernel) (by decide +kernel)
set_option maxRecDepth 20000 in
theorem gX10_longest_X10_queueLength : GoodIn wsX10_longest (wsV RX10 83 RX10 yX10_queueLength wsX10_queueLength) := goodIn_app (goodIn_of _ (by decide +kernel)) ggX10_longest_X10_queueLength
theorem dX10_longest_0 : decode cX10_longest 0 = .ok (.bipush (-5), 2) := by decide +kernel
theorem dX10_longest_2 : decode cX10_longest 2 = .ok (.istore_n 1, 1) := by decide +kernel
theorem dX10_longest_3 : decode cX10_longest 3 = .ok (.iconst (-1), 1) := by decide +kernel
theorem dX10_longest_4 : decode cX10_longest 4 = .ok (.istore_n 2, 1) := by decide +kernel
theorem dX10_longest_5 : decode cX10_longest 5 = .ok (.iconst 0, 1) := by decide +kernel
theorem dX10_longest_6 : decode cX10_longest 6 = .ok (.istore_n 3, 1) := by decide +kernel
theorem dX10_longest_7 : decode cX10_longest 7 = .ok (.iload_n 3, 1) := by decide +kernel
theorem dX10_longest_8 : decode cX10_longest 8 = .ok (.aload_n 0, 1) := by decide +kernel
theorem dX10_longest_9 : decode cX10_longest 9 = .ok (.getfield 7, 3) := by decide +kernel
theorem dX10_longest_12 : decode cX10_longest 12 = .ok (.iconst 1, 1) := by decide +kernel
theorem dX10_longest_13 : decode cX10_longest 13 = .ok (.iaload, 1) := by decide +kernel
theorem dX10_longest_14 : decode cX10_longest 14 = .ok (.if_icmp .ge 49, 3) := by decide +kernel
theorem dX10_longest_17 : decode cX10_longest 17 = .ok (.aload_n 0, 1) := by decide +kernel
theorem dX10_longest_18 : decode cX10_longest 18 = .ok (.iload_n 3, 1) := by decide +kernel
theorem dX10_longest_19 : decode cX10_longest 19 = .ok (.iconst 0, 1) := by decide +kernel
theorem dX10_longest_20 : decode cX10_longest 20 = .ok (.invokevirtual 83, 3) := by decide +kernel
theorem dX10_longest_23 : decode cX10_longest 23 = .ok (.aload_n 0, 1) := by decide +kernel
theorem dX10_longest_24 : decode cX10_longest 24 = .ok (.iload_n 3, 1) := by decide +kernel
theorem dX10_longest_25 : decode cX10_longest 25 = .ok (.iconst 1, 1) := by decide +kernel
theorem dX10_longest_26 : decode cX10_longest 26 = .ok (.invokevirtual 83, 3) := by decide +kernel
theorem dX10_longest_29 : decode cX10_longest 29 = .ok (.iadd, 1) := by decide +kernel
theorem dX10_longest_30 : decode cX10_longest 30 = .ok (.istore 4, 2) := by decide +kernel
theorem dX10_longest_32 : decode cX10_longest 32 = .ok (.iload 4, 2) := by decide +kernel
theorem dX10_longest_34 : decode cX10_longest 34 = .ok (.iload_n 2, 1) := by decide +kernel
theorem dX10_longest_35 : decode cX10_longest 35 = .ok (.if_icmp .le 7, 3) := by decide +kernel
theorem dX10_longest_38 : decode cX10_longest 38 = .ok (.iload_n 3, 1) := by decide +kernel
theorem dX10_longest_39 : decode cX10_longest 39 = .ok (.goto 4, 3) := by decide +kernel
theorem dX10_longest_42 : decode cX10_longest 42 = .ok (.iload_n 1, 1) := by decide +kernel
theorem dX10_longest_43 : decode cX10_longest 43 = .ok (.istore_n 1, 1) := by decide +kernel
theorem dX10_longest_44 : decode cX10_longest 44 = .ok (.iload 4, 2) := by decide +kernel
theorem dX10_longest_46 : decode cX10_longest 46 = .ok (.iload_n 2, 1) := by decide +kernel
theorem dX10_longest_47 : decode cX10_longest 47 = .ok (.if_icmp .le 8, 3) := by decide +kernel
theorem dX10_longest_50 : decode cX10_longest 50 = .ok (.iload 4, 2) := by decide +kernel
theorem dX10_longest_52 : decode cX10_longest 52 = .ok (.goto 4, 3) := by decide +kernel
theorem dX10_longest_55 : decode cX10_longest 55 = .ok (.iload_n 2, 1) := by decide +kernel
theorem dX10_longest_56 : decode cX10_longest 56 = .ok (.istore_n 2, 1) := by decide +kernel
theorem dX10_longest_57 : decode cX10_longest 57 = .ok (.iinc 3 1, 3) := by decide +kernel
theorem dX10_longest_60 : decode cX10_longest 60 = .ok (.goto (-53), 3) := by decide +kernel
theorem dX10_longest_63 : decode cX10_longest 63 = .ok (.iload_n 1, 1) := by decide +kernel
theorem dX10_longest_64 : decode cX10_longest 64 = .ok (.ireturn, 1) := by decide +kernel
set_option maxRecDepth 20000 in
theorem ggX10_count_X10_gateOf : GoodIn wsX10_count wsX10_gateOf := goodIn_r _ [8, 1, 32, 33, 34, 35, 36, 37, 38, 39, 40, 41] (by decide +kernel) (by decide +kernel)
set_option maxRecDepth 20000 in
theorem gX10_count_X10_gateOf : GoodIn wsX10_count (wsV RX10 52 RX10 yX10_gateOf wsX10_gateOf) := goodIn_app (goodIn_of _ (by decide +kernel)) ggX10_count_X10_gateOf
set_option maxRecDepth 20000 in
theorem ggX10_count_X10_peopleAt : GoodIn wsX10_count wsX10_peopleAt := goodIn_r _ [12, 1, 13, 14, 15, 7, 16, 17, 18, 19, 32, 33, 34, 35, 36, 37, 38, 39, 40, 41] (by decide +kernel) (by decide +kernel)
set_option maxRecDepth 20000 in
theorem gX10_count_X10_peopleAt : GoodIn wsX10_count (wsV RX10 189 RX10 yX10_peopleAt wsX10_peopleAt) := goodIn_app (goodIn_of _ (by decide +kernel)) ggX10_count_X10_peopleAt
set_option maxRecDepth 20000 in
theorem ggX10_count_X10_longest : GoodIn wsX10_count wsX10_longest := goodIn_r _ [23, 1, 24, 25, 26, 7, 27, 28, 29, 30, 31, 13, 14, 15, 16, 32, 33, 34, 35, 36, 37, 38, 39, 40, 41] (by decide +kernel) (by decide +kernel)
set_option maxRecDepth 20000 in
theorem gX10_count_X10_longest : GoodIn wsX10_count (wsV RX10 192 RX10 yX10_longest wsX10_longest) := goodIn_app (goodIn_of _ (by decide +kernel)) ggX10_count_X10_longest
theorem dX10_count_0 : decode cX10_count 0 = .ok (.iconst 0, 1) := by decide +kernel
theorem dX10_count_1 : decode cX10_count 1 = .ok (.istore_n 2, 1) := by decide +kernel
theorem dX10_count_2 : decode cX10_count 2 = .ok (.iconst 0, 1) := by decide +kernel
theorem dX10_count_3 : decode cX10_count 3 = .ok (.istore_n 3, 1) := by decide +kernel
theorem dX10_count_4 : decode cX10_count 4 = .ok (.iload_n 3, 1) := by decide +kernel
theorem dX10_count_5 : decode cX10_count 5 = .ok (.aload_n 0, 1) := by decide +kernel
theorem dX10_count_6 : decode cX10_count 6 = .ok (.getfield 7, 3) := by decide +kernel
theorem dX10_count_9 : decode cX10_count 9 = .ok (.iconst 1, 1) := by decide +kernel
theorem dX10_count_10 : decode cX10_count 10 = .ok (.iaload, 1) := by decide +kernel
theorem dX10_count_11 : decode cX10_count 11 = .ok (.if_icmp .ge 19, 3) := by decide +kernel
theorem dX10_count_14 : decode cX10_count 14 = .ok (.iload_n 2, 1) := by decide +kernel
theorem dX10_count_15 : decode cX10_count 15 = .ok (.aload_n 0, 1) := by decide +kernel
theorem dX10_count_16 : decode cX10_count 16 = .ok (.iload_n 3, 1) := by decide +kernel
theorem dX10_count_17 : decode cX10_count 17 = .ok (.bipush 12, 2) := by decide +kernel
theorem dX10_count_19 : decode cX10_count 19 = .ok (.invokevirtual 52, 3) := by decide +kernel
theorem dX10_count_22 : decode cX10_count 22 = .ok (.iadd, 1) := by decide +kernel
theorem dX10_count_23 : decode cX10_count 23 = .ok (.istore_n 2, 1) := by decide +kernel
theorem dX10_count_24 : decode cX10_count 24 = .ok (.iinc 3 1, 3) := by decide +kernel
theorem dX10_count_27 : decode cX10_count 27 = .ok (.goto (-23), 3) := by decide +kernel
theorem dX10_count_30 : decode cX10_count 30 = .ok (.iconst 0, 1) := by decide +kernel
theorem dX10_count_31 : decode cX10_count 31 = .ok (.istore_n 3, 1) := by decide +kernel
theorem dX10_count_32 : decode cX10_count 32 = .ok (.iconst 0, 1) := by decide +kernel
theorem dX10_count_33 : decode cX10_count 33 = .ok (.istore 4, 2) := by decide +kernel
theorem dX10_count_35 : decode cX10_count 35 = .ok (.iload 4, 2) := by decide +kernel
theorem dX10_count_37 : decode cX10_count 37 = .ok (.aload_n 0, 1) := by decide +kernel
theorem dX10_count_38 : decode cX10_count 38 = .ok (.getfield 7, 3) := by decide +kernel
theorem dX10_count_41 : decode cX10_count 41 = .ok (.iconst 4, 1) := by decide +kernel
theorem dX10_count_42 : decode cX10_count 42 = .ok (.iaload, 1) := by decide +kernel
theorem dX10_count_43 : decode cX10_count 43 = .ok (.if_icmp .ge 27, 3) := by decide +kernel
theorem dX10_count_46 : decode cX10_count 46 = .ok (.iload_n 3, 1) := by decide +kernel
theorem dX10_count_47 : decode cX10_count 47 = .ok (.aload_n 0, 1) := by decide +kernel
theorem dX10_count_48 : decode cX10_count 48 = .ok (.getfield 7, 3) := by decide +kernel
theorem dX10_count_51 : decode cX10_count 51 = .ok (.sipush 424, 3) := by decide +kernel
theorem dX10_count_54 : decode cX10_count 54 = .ok (.iconst 3, 1) := by decide +kernel
theorem dX10_count_55 : decode cX10_count 55 = .ok (.iload 4, 2) := by decide +kernel
theorem dX10_count_57 : decode cX10_count 57 = .ok (.imul, 1) := by decide +kernel
theorem dX10_count_58 : decode cX10_count 58 = .ok (.iadd, 1) := by decide +kernel
theorem dX10_count_59 : decode cX10_count 59 = .ok (.iconst 2, 1) := by decide +kernel
theorem dX10_count_60 : decode cX10_count 60 = .ok (.iadd, 1) := by decide +kernel
theorem dX10_count_61 : decode cX10_count 61 = .ok (.iaload, 1) := by decide +kernel
theorem dX10_count_62 : decode cX10_count 62 = .ok (.iadd, 1) := by decide +kernel
theorem dX10_count_63 : decode cX10_count 63 = .ok (.istore_n 3, 1) := by decide +kernel
theorem dX10_count_64 : decode cX10_count 64 = .ok (.iinc 4 1, 3) := by decide +kernel
theorem dX10_count_67 : decode cX10_count 67 = .ok (.goto (-32), 3) := by decide +kernel
theorem dX10_count_70 : decode cX10_count 70 = .ok (.iload_n 1, 1) := by decide +kernel
theorem dX10_count_71 : decode cX10_count 71 = .ok (.tableswitch 141 0 12 #[65, 72, 79, 86, 93, 100, 107, 114, 116, 118, 126, 131, 136], 65) := by decide +kernel
theorem dX10_count_136 : decode cX10_count 136 = .ok (.aload_n 0, 1) := by decide +kernel
theorem dX10_count_137 : decode cX10_count 137 = .ok (.getfield 7, 3) := by decide +kernel
theorem dX10_count_140 : decode cX10_count 140 = .ok (.iconst 0, 1) := by decide +kernel
theorem dX10_count_141 : decode cX10_count 141 = .ok (.iaload, 1) := by decide +kernel
theorem dX10_count_142 : decode cX10_count 142 = .ok (.ireturn, 1) := by decide +kernel
theorem dX10_count_143 : decode cX10_count 143 = .ok (.aload_n 0, 1) := by decide +kernel
theorem dX10_count_144 : decode cX10_count 144 = .ok (.getfield 7, 3) := by decide +kernel
theorem dX10_count_147 : decode cX10_count 147 = .ok (.iconst 1, 1) := by decide +kernel
theorem dX10_count_148 : decode cX10_count 148 = .ok (.iaload, 1) := by decide +kernel
theorem dX10_count_149 : decode cX10_count 149 = .ok (.ireturn, 1) := by decide +kernel
theorem dX10_count_150 : decode cX10_count 150 = .ok (.aload_n 0, 1) := by decide +kernel
theorem dX10_count_151 : decode cX10_count 151 = .ok (.getfield 7, 3) := by decide +kernel
theorem dX10_count_154 : decode cX10_count 154 = .ok (.iconst 2, 1) := by decide +kernel
theorem dX10_count_155 : decode cX10_count 155 = .ok (.iaload, 1) := by decide +kernel
theorem dX10_count_156 : decode cX10_count 156 = .ok (.ireturn, 1) := by decide +kernel
theorem dX10_count_157 : decode cX10_count 157 = .ok (.aload_n 0, 1) := by decide +kernel
theorem dX10_count_158 : decode cX10_count 158 = .ok (.iconst 3, 1) := by decide +kernel
theorem dX10_count_159 : decode cX10_count 159 = .ok (.iconst 4, 1) := by decide +kernel
theorem dX10_count_160 : decode cX10_count 160 = .ok (.invokevirtual 189, 3) := by decide +kernel
theorem dX10_count_163 : decode cX10_count 163 = .ok (.ireturn, 1) := by decide +kernel
theorem dX10_count_164 : decode cX10_count 164 = .ok (.aload_n 0, 1) := by decide +kernel
theorem dX10_count_165 : decode cX10_count 165 = .ok (.iconst 1, 1) := by decide +kernel
theorem dX10_count_166 : decode cX10_count 166 = .ok (.iconst 1, 1) := by decide +kernel
theorem dX10_count_167 : decode cX10_count 167 = .ok (.invokevirtual 189, 3) := by decide +kernel
theorem dX10_count_170 : decode cX10_count 170 = .ok (.ireturn, 1) := by decide +kernel
theorem dX10_count_171 : decode cX10_count 171 = .ok (.aload_n 0, 1) := by decide +kernel
theorem dX10_count_172 : decode cX10_count 172 = .ok (.iconst 2, 1) := by decide +kernel
theorem dX10_count_173 : decode cX10_count 173 = .ok (.iconst 2, 1) := by decide +kernel
theorem dX10_count_174 : decode cX10_count 174 = .ok (.invokevirtual 189, 3) := by decide +kernel
theorem dX10_count_177 : decode cX10_count 177 = .ok (.ireturn, 1) := by decide +kernel
theorem dX10_count_178 : decode cX10_count 178 = .ok (.aload_n 0, 1) := by decide +kernel
theorem dX10_count_179 : decode cX10_count 179 = .ok (.iconst 5, 1) := by decide +kernel
theorem dX10_count_180 : decode cX10_count 180 = .ok (.iconst 5, 1) := by decide +kernel
theorem dX10_count_181 : decode cX10_count 181 = .ok (.invokevirtual 189, 3) := by decide +kernel
theorem dX10_count_184 : decode cX10_count 184 = .ok (.ireturn, 1) := by decide +kernel
theorem dX10_count_185 : decode cX10_count 185 = .ok (.iload_n 2, 1) := by decide +kernel
theorem dX10_count_186 : decode cX10_count 186 = .ok (.ireturn, 1) := by decide +kernel
theorem dX10_count_187 : decode cX10_count 187 = .ok (.iload_n 3, 1) := by decide +kernel
theorem dX10_count_188 : decode cX10_count 188 = .ok (.ireturn, 1) := by decide +kernel
theorem dX10_count_189 : decode cX10_count 189 = .ok (.aload_n 0, 1) := by decide +kernel
theorem dX10_count_190 : decode cX10_count 190 = .ok (.getfield 7, 3) := by decide +kernel
theorem dX10_count_193 : decode cX10_count 193 = .ok (.bipush 6, 2) := by decide +kernel
theorem dX10_count_195 : decode cX10_count 195 = .ok (.iaload, 1) := by decide +kernel
theorem dX10_count_196 : decode cX10_count 196 = .ok (.ireturn, 1) := by decide +kernel
theorem dX10_count_197 : decode cX10_count 197 = .ok (.aload_n 0, 1) := by decide +kernel
theorem dX10_count_198 : decode cX10_count 198 = .ok (.invokevirtual 192, 3) := by decide +kernel
theorem dX10_count_201 : decode cX10_count 201 = .ok (.ireturn, 1) := by decide +kernel
theorem dX10_count_202 : decode cX10_count 202 = .ok (.aload_n 0, 1) := by decide +kernel
theorem dX10_count_203 : decode cX10_count 203 = .ok (.getfield 26, 3) := by decide +kernel
theorem dX10_count_206 : decode cX10_count 206 = .ok (.ireturn, 1) := by decide +kernel
theorem dX10_count_207 : decode cX10_count 207 = .ok (.aload_n 0, 1) := by decide +kernel
theorem dX10_count_208 : decode cX10_count 208 = .ok (.getfield 150, 3) := by decide +kernel
theorem dX10_count_211 : decode cX10_count 211 = .ok (.ireturn, 1) := by decide +kernel
theorem dX10_count_212 : decode cX10_count 212 = .ok (.bipush (-2), 2) := by decide +kernel
theorem dX10_count_214 : decode cX10_count 214 = .ok (.ireturn, 1) := by decide +kernel
theorem dJ9_floorMod_7cf53_0 : decode cJ9_floorMod_7cf53 0 = .ok (.iload_n 0, 1) := by decide +kernel
theorem dJ9_floorMod_7cf53_1 : decode cJ9_floorMod_7cf53 1 = .ok (.iload_n 1, 1) := by decide +kernel
theorem dJ9_floorMod_7cf53_2 : decode cJ9_floorMod_7cf53 2 = .ok (.irem, 1) := by decide +kernel
theorem dJ9_floorMod_7cf53_3 : decode cJ9_floorMod_7cf53 3 = .ok (.istore_n 2, 1) := by decide +kernel
theorem dJ9_floorMod_7cf53_4 : decode cJ9_floorMod_7cf53 4 = .ok (.iload_n 0, 1) := by decide +kernel
theorem dJ9_floorMod_7cf53_5 : decode cJ9_floorMod_7cf53 5 = .ok (.iload_n 1, 1) := by decide +kernel
theorem dJ9_floorMod_7cf53_6 : decode cJ9_floorMod_7cf53 6 = .ok (.ixor, 1) := by decide +kernel
theorem dJ9_floorMod_7cf53_7 : decode cJ9_floorMod_7cf53 7 = .ok (.ifCond .ge 11, 3) := by decide +kernel
theorem dJ9_floorMod_7cf53_10 : decode cJ9_floorMod_7cf53 10 = .ok (.iload_n 2, 1) := by decide +kernel
theorem dJ9_floorMod_7cf53_11 : decode cJ9_floorMod_7cf53 11 = .ok (.ifCond .eq 7, 3) := by decide +kernel
theorem dJ9_floorMod_7cf53_14 : decode cJ9_floorMod_7cf53 14 = .ok (.iload_n 2, 1) := by decide +kernel
theorem dJ9_floorMod_7cf53_15 : decode cJ9_floorMod_7cf53 15 = .ok (.iload_n 1, 1) := by decide +kernel
theorem dJ9_floorMod_7cf53_16 : decode cJ9_floorMod_7cf53 16 = .ok (.iadd, 1) := by decide +kernel
theorem dJ9_floorMod_7cf53_17 : decode cJ9_floorMod_7cf53 17 = .ok (.ireturn, 1) := by decide +kernel
theorem dJ9_floorMod_7cf53_18 : decode cJ9_floorMod_7cf53 18 = .ok (.iload_n 2, 1) := by decide +kernel
theorem dJ9_floorMod_7cf53_19 : decode cJ9_floorMod_7cf53 19 = .ok (.ireturn, 1) := by decide +kernel
theorem dJ9_max_7cf53_0 : decode cJ9_max_7cf53 0 = .ok (.iload_n 0, 1) := by decide +kernel
theorem dJ9_max_7cf53_1 : decode cJ9_max_7cf53 1 = .ok (.iload_n 1, 1) := by decide +kernel
theorem dJ9_max_7cf53_2 : decode cJ9_max_7cf53 2 = .ok (.if_icmp .lt 7, 3) := by decide +kernel
theorem dJ9_max_7cf53_5 : decode cJ9_max_7cf53 5 = .ok (.iload_n 0, 1) := by decide +kernel
theorem dJ9_max_7cf53_6 : decode cJ9_max_7cf53 6 = .ok (.goto 4, 3) := by decide +kernel
theorem dJ9_max_7cf53_9 : decode cJ9_max_7cf53 9 = .ok (.iload_n 1, 1) := by decide +kernel
theorem dJ9_max_7cf53_10 : decode cJ9_max_7cf53 10 = .ok (.ireturn, 1) := by decide +kernel
theorem dJ9_min_7cf53_0 : decode cJ9_min_7cf53 0 = .ok (.iload_n 0, 1) := by decide +kernel
theorem dJ9_min_7cf53_1 : decode cJ9_min_7cf53 1 = .ok (.iload_n 1, 1) := by decide +kernel
theorem dJ9_min_7cf53_2 : decode cJ9_min_7cf53 2 = .ok (.if_icmp .gt 7, 3) := by decide +kernel
theorem dJ9_min_7cf53_5 : decode cJ9_min_7cf53 5 = .ok (.iload_n 0, 1) := by decide +kernel
theorem dJ9_min_7cf53_6 : decode cJ9_min_7cf53 6 = .ok (.goto 4, 3) := by decide +kernel
theorem dJ9_min_7cf53_9 : decode cJ9_min_7cf53 9 = .ok (.iload_n 1, 1) := by decide +kernel
theorem dJ9_min_7cf53_10 : decode cJ9_min_7cf53 10 = .ok (.ireturn, 1) := by decide +kernel
set_option maxRecDepth 20000 in
theorem ggL_law_X9_init : GoodIn wsL_law wsX9_init := goodIn_r _ [8, 9, 10, 11, 12, 13, 14, 15, 16, 17, 18, 19, 20, 21, 22, 23, 24, 25, 26, 27, 28, 29, 30, 31, 32, 33, 34, 35, 36, 37, 38, 39, 40, 41, 42, 43, 44, 45, 46, 47, 48, 49, 50, 51, 52, 53, 54, 55, 56, 57, 58, 59, 60, 61, 62, 63, 64, 65, 66, 67, 68, 69, 70, 71, 72, 73, 74, 75, 76, 77, 78, 79, 80, 81, 82, 83, 84, 85, 86, 87, 88, 89, 90, 91, 92, 945, 946, 947, 948, 949, 950, 951, 952, 953, 954, 955, 931, 932, 933, 934, 956, 957, 958, 959, 960, 961, 962, 963, 964, 965, 966, 967, 968, 969, 970, 971, 972, 973, 974, 975, 976, 977, 978, 979, 980, 981, 982, 983, 984, 985, 986, 987, 988, 989, 990, 991, 992, 993, 994, 995, 996, 997, 998, 999, 1000, 1001, 1002, 1003] (by decide +kernel) (by decide +kernel)
set_option maxRecDepth 20000 in
theorem gL_law_X9_init : GoodIn wsL_law (wsX9_init) := ggL_law_X9_init
set_option maxRecDepth 20000 in
theorem ggL_law_X10_init : GoodIn wsL_law wsX10_init := goodIn_r _ [95, 96, 10, 11, 53, 97, 98, 99, 91, 100, 101, 935, 936, 937, 938, 939, 940, 941, 942, 943, 944] (by decide +kernel) (by decide +kernel)
set_option maxRecDepth 20000 in
theorem gL_law_X10_init : GoodIn wsL_law (wsX10_init) := ggL_law_X10_init
set_option maxRecDepth 20000 in
theorem ggL_law_X9_addGate : GoodIn wsL_law wsX9_addGate := goodIn_r _ [105, 20, 15, 106, 107, 108, 19, 109, 86, 110, 111, 112, 113, 114, 115, 116, 117, 118, 119, 120, 121, 122, 14, 123, 124, 30, 125, 32, 126, 34, 127, 36, 40, 128, 41, 129, 130, 131, 43, 132, 64, 65, 133, 134, 135, 136, 137, 138, 66, 139, 140, 141, 142, 143, 144, 145, 146, 147, 63, 148, 149, 70, 150, 151, 152, 153, 154, 155, 156, 157, 158, 159, 160, 45, 161, 162, 163, 164, 165, 166, 167, 168, 169, 170, 171, 47, 172, 173, 174, 175, 176, 177, 178, 179, 180, 49, 181, 182, 183, 80, 184, 185, 186, 39, 187, 54, 188, 55, 56, 57, 189, 190, 191, 192, 193, 194, 195, 2, 196, 197, 198, 199, 200, 201, 202, 203, 204, 205, 206, 207, 208, 209, 931, 932, 933, 934, 956, 957, 958, 945, 946, 947, 948, 949, 950, 951, 952, 953, 954, 955, 972, 973, 974, 975, 976, 977, 978, 979, 980, 981, 982, 983, 984, 985, 986, 1002, 1003, 987, 988, 989, 990, 991, 992, 993, 994, 995, 996, 997, 998, 999, 1000, 1001, 966, 967, 968, 969, 970, 971] (by decide +kernel) (by decide +kernel)
set_option maxRecDepth 20000 in
theorem gL_law_X9_addGate : GoodIn wsL_law (wsV RL 13 RX9 yX9_addGate wsX9_addGate) := goodIn_app (goodIn_of _ (by decide +kernel)) ggL_law_X9_addGate
set_option maxRecDepth 20000 in
theorem ggL_law_X10_addGate : GoodIn wsL_law wsX10_addGate := goodIn_r _ [213, 97, 214, 215, 5, 216, 217, 218, 219, 220, 98, 221, 222, 223, 224, 225, 226, 227, 228, 229, 230, 231, 232, 233, 99, 935, 936, 937, 938, 939, 940, 941, 942, 943, 944] (by decide +kernel) (by decide +kernel)
set_option maxRecDepth 20000 in
theorem gL_law_X10_addGate : GoodIn wsL_law (wsV RL 17 RX10 yX10_addGate wsX10_addGate) := goodIn_app (goodIn_of _ (by decide +kernel)) ggL_law_X10_addGate
set_option maxRecDepth 20000 in
theorem ggL_law_X9_setDirection : GoodIn wsL_law wsX9_setDirection := goodIn_r _ [237, 20, 15, 106, 107, 108, 19, 109, 86, 110, 111, 112, 113, 114, 115, 116, 117, 118, 119, 120, 121, 122, 14, 123, 124, 30, 125, 32, 126, 34, 127, 36, 40, 128, 41, 129, 130, 131, 43, 132, 64, 65, 133, 134, 135, 136, 137, 138, 66, 139, 140, 141, 142, 143, 144, 145, 146, 147, 63, 148, 149, 70, 150, 151, 152, 153, 154, 155, 156, 157, 158, 159, 160, 45, 161, 162, 163, 164, 165, 166, 167, 168, 169, 170, 171, 47, 172, 173, 174, 175, 176, 177, 178, 179, 180, 49, 181, 182, 183, 80, 184, 185, 186, 39, 187, 54, 188, 55, 56, 57, 189, 190, 238, 239, 240, 241, 242, 243, 244, 245, 246, 195, 2, 196, 202, 203, 204, 205, 206, 207, 208, 209, 931, 932, 933, 934, 956, 957, 958, 945, 946, 947, 948, 949, 950, 951, 952, 953, 954, 955, 972, 973, 974, 975, 976, 977, 978, 979, 980, 981, 982, 983, 984, 985, 986, 1002, 1003, 987, 988, 989, 990, 991, 992, 993, 994, 995, 996, 997, 998, 999, 1000, 1001, 966, 967, 968, 969, 970, 971] (by decide +kernel) (by decide +kernel)
set_option maxRecDepth 20000 in
theorem gL_law_X9_setDirection : GoodIn wsL_law (wsV RL 18 RX9 yX9_setDirection wsX9_setDirection) := goodIn_app (goodIn_of _ (by decide +kernel)) ggL_law_X9_setDirection
set_option maxRecDepth 20000 in
theorem ggL_law_X10_setDirection : GoodIn wsL_law wsX10_setDirection := goodIn_r _ [250, 251, 252, 253, 5, 254, 97, 214, 215, 216, 217, 218, 219, 220, 98, 255, 256, 257, 258, 221, 222, 223, 224, 225, 226, 227, 228, 229, 230, 231, 232, 233, 99, 935, 936, 937, 938, 939, 940, 941, 942, 943, 944] (by decide +kernel) (by decide +kernel)
set_option maxRecDepth 20000 in
theorem gL_law_X10_setDirection : GoodIn wsL_law (wsV RL 22 RX10 yX10_setDirection wsX10_setDirection) := goodIn_app (goodIn_of _ (by decide +kernel)) ggL_law_X10_setDirection
set_option maxRecDepth 20000 in
theorem ggL_law_X9_addPool : GoodIn wsL_law wsX9_addPool := goodIn_r _ [262, 20, 15, 106, 107, 108, 19, 109, 86, 110, 111, 112, 113, 114, 115, 116, 117, 118, 119, 120, 121, 122, 14, 123, 124, 30, 125, 32, 126, 34, 127, 36, 40, 128, 41, 129, 130, 131, 43, 132, 64, 65, 133, 134, 135, 136, 137, 138, 66, 139, 140, 141, 142, 143, 144, 145, 146, 147, 63, 148, 149, 70, 150, 151, 152, 153, 154, 155, 156, 157, 158, 159, 160, 45, 161, 162, 163, 164, 165, 166, 167, 168, 169, 170, 171, 47, 172, 173, 174, 175, 176, 177, 178, 179, 180, 49, 181, 182, 183, 80, 184, 185, 186, 39, 187, 54, 188, 55, 56, 57, 189, 190, 263, 264, 265, 266, 195, 2, 196, 267, 268, 269, 270, 202, 203, 204, 205, 206, 207, 208, 209, 931, 932, 933, 934, 956, 957, 958, 945, 946, 947, 948, 949, 950, 951, 952, 953, 954, 955, 972, 973, 974, 975, 976, 977, 978, 979, 980, 981, 982, 983, 984, 985, 986, 1002, 1003, 987, 988, 989, 990, 991, 992, 993, 994, 995, 996, 997, 998, 999, 1000, 1001, 966, 967, 968, 969, 970, 971] (by decide +kernel) (by decide +kernel)
set_option maxRecDepth 20000 in
theorem gL_law_X9_addPool : GoodIn wsL_law (wsV RL 23 RX9 yX9_addPool wsX9_addPool) := goodIn_app (goodIn_of _ (by decide +kernel)) ggL_law_X9_addPool
set_option maxRecDepth 20000 in
theorem ggL_law_X10_addPool : GoodIn wsL_law wsX10_addPool := goodIn_r _ [274, 97, 214, 215, 5, 216, 217, 218, 219, 220, 98, 225, 226, 227, 228, 229, 230, 231, 232, 233, 99, 935, 936, 937, 938, 939, 940, 941, 942, 943, 944] (by decide +kernel) (by decide +kernel)
set_option maxRecDepth 20000 in
theorem gL_law_X10_addPool : GoodIn wsL_law (wsV RL 27 RX10 yX10_addPool wsX10_addPool) := goodIn_app (goodIn_of _ (by decide +kernel)) ggL_law_X10_addPool
set_option maxRecDepth 20000 in
theorem ggL_law_X9_credit : GoodIn wsL_law wsX9_credit := goodIn_r _ [278, 20, 15, 106, 107, 108, 19, 109, 86, 110, 111, 112, 113, 114, 115, 116, 117, 118, 119, 120, 121, 122, 14, 123, 124, 30, 125, 32, 126, 34, 127, 36, 40, 128, 41, 129, 130, 131, 43, 132, 64, 65, 133, 134, 135, 136, 137, 138, 66, 139, 140, 141, 142, 143, 144, 145, 146, 147, 63, 148, 149, 70, 150, 151, 152, 153, 154, 155, 156, 157, 158, 159, 160, 45, 161, 162, 163, 164, 165, 166, 167, 168, 169, 170, 171, 47, 172, 173, 174, 175, 176, 177, 178, 179, 180, 49, 181, 182, 183, 80, 184, 185, 186, 39, 187, 54, 188, 55, 56, 57, 189, 190, 279, 280, 281, 282, 283, 284, 285, 286, 287, 288, 289, 195, 2, 196, 202, 203, 204, 205, 206, 207, 208, 209, 931, 932, 933, 934, 956, 957, 958, 945, 946, 947, 948, 949, 950, 951, 952, 953, 954, 955, 972, 973, 974, 975, 976, 977, 978, 979, 980, 981, 982, 983, 984, 985, 986, 1002, 1003, 987, 988, 989, 990, 991, 992, 993, 994, 995, 996, 997, 998, 999, 1000, 1001, 966, 967, 968, 969, 970, 971] (by decide +kernel) (by decide +kernel)
set_option maxRecDepth 20000 in
theorem gL_law_X9_credit : GoodIn wsL_law (wsV RL 28 RX9 yX9_credit wsX9_credit) := goodIn_app (goodIn_of _ (by decide +kernel)) ggL_law_X9_credit
set_option maxRecDepth 20000 in
theorem ggL_law_X10_credit : GoodIn wsL_law wsX10_credit := goodIn_r _ [293, 294, 97, 295, 296, 297, 298, 5, 299, 214, 215, 216, 217, 218, 219, 220, 98, 225, 226, 227, 228, 229, 230, 231, 232, 233, 99, 935, 936, 937, 938, 939, 940, 941, 942, 943, 944] (by decide +kernel) (by decide +kernel)
set_option maxRecDepth 20000 in
theorem gL_law_X10_credit : GoodIn wsL_law (wsV RL 31 RX10 yX10_credit wsX10_credit) := goodIn_app (goodIn_of _ (by decide +kernel)) ggL_law_X10_credit
set_option maxRecDepth 20000 in
theorem ggL_law_X9_addPass : GoodIn wsL_law wsX9_addPass := goodIn_r _ [303, 20, 15, 106, 107, 108, 19, 109, 86, 110, 111, 112, 113, 114, 115, 116, 117, 118, 119, 120, 121, 122, 14, 123, 124, 30, 125, 32, 126, 34, 127, 36, 40, 128, 41, 129, 130, 131, 43, 132, 64, 65, 133, 134, 135, 136, 137, 138, 66, 139, 140, 141, 142, 143, 144, 145, 146, 147, 63, 148, 149, 70, 150, 151, 152, 153, 154, 155, 156, 157, 158, 159, 160, 45, 161, 162, 163, 164, 165, 166, 167, 168, 169, 170, 171, 47, 172, 173, 174, 175, 176, 177, 178, 179, 180, 49, 181, 182, 183, 80, 184, 185, 186, 39, 187, 54, 188, 55, 56, 57, 189, 190, 304, 305, 306, 307, 308, 286, 287, 288, 289, 309, 310, 311, 312, 202, 203, 204, 2, 205, 206, 207, 208, 209, 931, 932, 933, 934, 956, 957, 958, 945, 946, 947, 948, 949, 950, 951, 952, 953, 954, 955, 972, 973, 974, 975, 976, 977, 978, 979, 980, 981, 982, 983, 984, 985, 986, 1002, 1003, 987, 988, 989, 990, 991, 992, 993, 994, 995, 996, 997, 998, 999, 1000, 1001, 966, 967, 968, 969, 970, 971] (by decide +kernel) (by decide +kernel)
set_option maxRecDepth 20000 in
theorem gL_law_X9_addPass : GoodIn wsL_law (wsV RL 32 RX9 yX9_addPass wsX9_addPass) := goodIn_app (goodIn_of _ (by decide +kernel)) ggL_law_X9_addPass
set_option maxRecDepth 20000 in
theorem ggL_law_X10_addPass : GoodIn wsL_law wsX10_addPass := goodIn_r _ [316, 97, 296, 297, 298, 5, 299, 214, 215, 216, 217, 218, 219, 220, 98, 225, 226, 227, 228, 229, 230, 231, 232, 233, 99, 935, 936, 937, 938, 939, 940, 941, 942, 943, 944] (by decide +kernel) (by decide +kernel)
set_option maxRecDepth 20000 in
theorem gL_law_X10_addPass : GoodIn wsL_law (wsV RL 35 RX10 yX10_addPass wsX10_addPass) := goodIn_app (goodIn_of _ (by decide +kernel)) ggL_law_X10_addPass
set_option maxRecDepth 20000 in
theorem ggL_law_X9_block : GoodIn wsL_law wsX9_block := goodIn_r _ [320, 20, 15, 106, 107, 108, 19, 109, 86, 110, 111, 112, 113, 114, 115, 116, 117, 118, 119, 120, 121, 122, 14, 123, 124, 30, 125, 32, 126, 34, 127, 36, 40, 128, 41, 129, 130, 131, 43, 132, 64, 65, 133, 134, 135, 136, 137, 138, 66, 139, 140, 141, 142, 143, 144, 145, 146, 147, 63, 148, 149, 70, 150, 151, 152, 153, 154, 155, 156, 157, 158, 159, 160, 45, 161, 162, 163, 164, 165, 166, 167, 168, 169, 170, 171, 47, 172, 173, 174, 175, 176, 177, 178, 179, 180, 49, 181, 182, 183, 80, 184, 185, 186, 39, 187, 54, 188, 55, 56, 57, 189, 190, 321, 322, 323, 324, 325, 326, 327, 328, 329, 202, 203, 204, 2, 205, 206, 207, 208, 209, 931, 932, 933, 934, 956, 957, 958, 945, 946, 947, 948, 949, 950, 951, 952, 953, 954, 955, 972, 973, 974, 975, 976, 977, 978, 979, 980, 981, 982, 983, 984, 985, 986, 1002, 1003, 987, 988, 989, 990, 991, 992, 993, 994, 995, 996, 997, 998, 999, 1000, 1001, 966, 967, 968, 969, 970, 971] (by decide +kernel) (by decide +kernel)
set_option maxRecDepth 20000 in
theorem gL_law_X9_block : GoodIn wsL_law (wsV RL 36 RX9 yX9_block wsX9_block) := goodIn_app (goodIn_of _ (by decide +kernel)) ggL_law_X9_block
set_option maxRecDepth 20000 in
theorem ggL_law_X10_block : GoodIn wsL_law wsX10_block := goodIn_r _ [333, 97, 334, 335, 336, 5, 337, 214, 215, 216, 217, 218, 219, 220, 98, 225, 226, 227, 228, 229, 230, 231, 232, 233, 99, 935, 936, 937, 938, 939, 940, 941, 942, 943, 944] (by decide +kernel) (by decide +kernel)
set_option maxRecDepth 20000 in
theorem gL_law_X10_block : GoodIn wsL_law (wsV RL 40 RX10 yX10_block wsX10_block) := goodIn_app (goodIn_of _ (by decide +kernel)) ggL_law_X10_block
set_option maxRecDepth 20000 in
theorem ggL_law_X9_setFare : GoodIn wsL_law wsX9_setFare := goodIn_r _ [341, 20, 15, 106, 107, 108, 19, 109, 86, 110, 111, 112, 113, 114, 115, 116, 117, 118, 119, 120, 121, 122, 14, 123, 124, 30, 125, 32, 126, 34, 127, 36, 40, 128, 41, 129, 130, 131, 43, 132, 64, 65, 133, 134, 135, 136, 137, 138, 66, 139, 140, 141, 142, 143, 144, 145, 146, 147, 63, 148, 149, 70, 150, 151, 152, 153, 154, 155, 156, 157, 158, 159, 160, 45, 161, 162, 163, 164, 165, 166, 167, 168, 169, 170, 171, 47, 172, 173, 174, 175, 176, 177, 178, 179, 180, 49, 181, 182, 183, 80, 184, 185, 186, 39, 187, 54, 188, 55, 56, 57, 189, 190, 342, 343, 344, 345, 195, 2, 196, 202, 203, 204, 205, 206, 207, 208, 209, 931, 932, 933, 934, 956, 957, 958, 945, 946, 947, 948, 949, 950, 951, 952, 953, 954, 955, 972, 973, 974, 975, 976, 977, 978, 979, 980, 981, 982, 983, 984, 985, 986, 1002, 1003, 987, 988, 989, 990, 991, 992, 993, 994, 995, 996, 997, 998, 999, 1000, 1001, 966, 967, 968, 969, 970, 971] (by decide +kernel) (by decide +kernel)
set_option maxRecDepth 20000 in
theorem gL_law_X9_setFare : GoodIn wsL_law (wsV RL 41 RX9 yX9_setFare wsX9_setFare) := goodIn_app (goodIn_of _ (by decide +kernel)) ggL_law_X9_setFare
set_option maxRecDepth 20000 in
theorem ggL_law_X10_setFare : GoodIn wsL_law wsX10_setFare := goodIn_r _ [349, 97, 214, 215, 5, 216, 217, 218, 219, 220, 98, 225, 226, 227, 228, 229, 230, 231, 232, 233, 99, 935, 936, 937, 938, 939, 940, 941, 942, 943, 944] (by decide +kernel) (by decide +kernel)
set_option maxRecDepth 20000 in
theorem gL_law_X10_setFare : GoodIn wsL_law (wsV RL 44 RX10 yX10_setFare wsX10_setFare) := goodIn_app (goodIn_of _ (by decide +kernel)) ggL_law_X10_setFare
set_option maxRecDepth 20000 in
theorem ggL_law_X9_enter : GoodIn wsL_law wsX9_enter := goodIn_r _ [353, 20, 15, 106, 107, 108, 19, 109, 86, 110, 111, 112, 113, 114, 115, 116, 117, 118, 119, 120, 121, 122, 14, 123, 124, 30, 125, 32, 126, 34, 127, 36, 40, 128, 41, 129, 130, 131, 43, 132, 64, 65, 133, 134, 135, 136, 137, 138, 66, 139, 140, 141, 142, 143, 144, 145, 146, 147, 63, 148, 149, 70, 150, 151, 152, 153, 154, 155, 156, 157, 158, 159, 160, 45, 161, 162, 163, 164, 165, 166, 167, 168, 169, 170, 171, 47, 172, 173, 174, 175, 176, 177, 178, 179, 180, 49, 181, 182, 183, 80, 184, 185, 186, 39, 187, 54, 188, 55, 56, 57, 189, 190, 354, 355, 356, 357, 358, 243, 244, 245, 246, 326, 327, 328, 329, 359, 360, 361, 362, 363, 364, 365, 366, 367, 368, 369, 370, 202, 203, 204, 2, 205, 206, 207, 208, 209, 931, 932, 933, 934, 956, 957, 958, 945, 946, 947, 948, 949, 950, 951, 952, 953, 954, 955, 972, 973, 974, 975, 976, 977, 978, 979, 980, 981, 982, 983, 984, 985, 986, 1002, 1003, 987, 988, 989, 990, 991, 992, 993, 994, 995, 996, 997, 998, 999, 1000, 1001, 966, 967, 968, 969, 970, 971] (by decide +kernel) (by decide +kernel)
set_option maxRecDepth 20000 in
theorem gL_law_X9_enter : GoodIn wsL_law (wsV RL 45 RX9 yX9_enter wsX9_enter) := goodIn_app (goodIn_of _ (by decide +kernel)) ggL_law_X9_enter
set_option maxRecDepth 20000 in
theorem ggL_law_X10_enter : GoodIn wsL_law wsX10_enter := goodIn_r _ [374, 217, 218, 219, 5, 220, 98, 97, 375, 376, 377, 378, 251, 252, 253, 254, 214, 215, 216, 334, 335, 336, 337, 379, 380, 381, 382, 383, 384, 385, 386, 225, 226, 227, 228, 229, 230, 231, 232, 233, 99, 935, 936, 937, 938, 939, 940, 941, 942, 943, 944] (by decide +kernel) (by decide +kernel)
set_option maxRecDepth 20000 in
theorem gL_law_X10_enter : GoodIn wsL_law (wsV RL 49 RX10 yX10_enter wsX10_enter) := goodIn_app (goodIn_of _ (by decide +kernel)) ggL_law_X10_enter
set_option maxRecDepth 20000 in
theorem ggL_law_X9_exit : GoodIn wsL_law wsX9_exit := goodIn_r _ [390, 20, 15, 106, 107, 108, 19, 109, 86, 110, 111, 112, 113, 114, 115, 116, 117, 118, 119, 120, 121, 122, 14, 123, 124, 30, 125, 32, 126, 34, 127, 36, 40, 128, 41, 129, 130, 131, 43, 132, 64, 65, 133, 134, 135, 136, 137, 138, 66, 139, 140, 141, 142, 143, 144, 145, 146, 147, 63, 148, 149, 70, 150, 151, 152, 153, 154, 155, 156, 157, 158, 159, 160, 45, 161, 162, 163, 164, 165, 166, 167, 168, 169, 170, 171, 47, 172, 173, 174, 175, 176, 177, 178, 179, 180, 49, 181, 182, 183, 80, 184, 185, 186, 39, 187, 54, 188, 55, 56, 57, 189, 190, 391, 392, 393, 394, 395, 396, 397, 243, 244, 245, 246, 398, 399, 400, 401, 363, 364, 365, 366, 367, 368, 369, 370, 202, 203, 204, 2, 205, 206, 207, 208, 209, 931, 932, 933, 934, 956, 957, 958, 945, 946, 947, 948, 949, 950, 951, 952, 953, 954, 955, 972, 973, 974, 975, 976, 977, 978, 979, 980, 981, 982, 983, 984, 985, 986, 1002, 1003, 987, 988, 989, 990, 991, 992, 993, 994, 995, 996, 997, 998, 999, 1000, 1001, 966, 967, 968, 969, 970, 971] (by decide +kernel) (by decide +kernel)
set_option maxRecDepth 20000 in
theorem gL_law_X9_exit : GoodIn wsL_law (wsV RL 50 RX9 yX9_exit wsX9_exit) := goodIn_app (goodIn_of _ (by decide +kernel)) ggL_law_X9_exit
set_option maxRecDepth 20000 in
theorem ggL_law_X10_exit : GoodIn wsL_law wsX10_exit := goodIn_r _ [405, 217, 218, 219, 5, 220, 98, 97, 406, 407, 408, 409, 251, 252, 253, 254, 214, 215, 216, 410, 411, 412, 413, 414, 415, 416, 417, 379, 380, 381, 382, 383, 384, 385, 386, 418, 419, 420, 421, 422, 423, 424, 425, 225, 226, 227, 228, 229, 230, 231, 232, 233, 99, 935, 936, 937, 938, 939, 940, 941, 942, 943, 944] (by decide +kernel) (by decide +kernel)
set_option maxRecDepth 20000 in
theorem gL_law_X10_exit : GoodIn wsL_law (wsV RL 53 RX10 yX10_exit wsX10_exit) := goodIn_app (goodIn_of _ (by decide +kernel)) ggL_law_X10_exit
set_option maxRecDepth 20000 in
theorem ggL_law_X9_divert : GoodIn wsL_law wsX9_divert := goodIn_r _ [429, 20, 15, 106, 107, 108, 19, 109, 86, 110, 111, 112, 113, 114, 115, 116, 117, 118, 119, 120, 121, 122, 14, 123, 124, 30, 125, 32, 126, 34, 127, 36, 40, 128, 41, 129, 130, 131, 43, 132, 64, 65, 133, 134, 135, 136, 137, 138, 66, 139, 140, 141, 142, 143, 144, 145, 146, 147, 63, 148, 149, 70, 150, 151, 152, 153, 154, 155, 156, 157, 158, 159, 160, 45, 161, 162, 163, 164, 165, 166, 167, 168, 169, 170, 171, 47, 172, 173, 174, 175, 176, 177, 178, 179, 180, 49, 181, 182, 183, 80, 184, 185, 186, 39, 187, 54, 188, 55, 56, 57, 189, 190, 430, 431, 432, 433, 358, 396, 243, 244, 245, 246, 434, 435, 436, 437, 201, 438, 439, 440, 441, 397, 442, 443, 444, 445, 446, 398, 399, 400, 401, 367, 368, 369, 370, 202, 203, 204, 2, 205, 206, 207, 208, 209, 931, 932, 933, 934, 956, 957, 958, 945, 946, 947, 948, 949, 950, 951, 952, 953, 954, 955, 972, 973, 974, 975, 976, 977, 978, 979, 980, 981, 982, 983, 984, 985, 986, 1002, 1003, 987, 988, 989, 990, 991, 992, 993, 994, 995, 996, 997, 998, 999, 1000, 1001, 966, 967, 968, 969, 970, 971] (by decide +kernel) (by decide +kernel)
set_option maxRecDepth 20000 in
theorem gL_law_X9_divert : GoodIn wsL_law (wsV RL 54 RX9 yX9_divert wsX9_divert) := goodIn_app (goodIn_of _ (by decide +kernel)) ggL_law_X9_divert
set_option maxRecDepth 20000 in
theorem ggL_law_X10_divert : GoodIn wsL_law wsX10_divert := goodIn_r _ [450, 251, 252, 253, 5, 254, 97, 214, 215, 216, 217, 218, 219, 220, 98, 451, 452, 453, 454, 422, 423, 424, 425, 414, 415, 416, 417, 383, 384, 385, 386, 379, 380, 381, 382, 225, 226, 227, 228, 229, 230, 231, 232, 233, 99, 935, 936, 937, 938, 939, 940, 941, 942, 943, 944] (by decide +kernel) (by decide +kernel)
set_option maxRecDepth 20000 in
theorem gL_law_X10_divert : GoodIn wsL_law (wsV RL 57 RX10 yX10_divert wsX10_divert) := goodIn_app (goodIn_of _ (by decide +kernel)) ggL_law_X10_divert
set_option maxRecDepth 20000 in
theorem ggL_law_X9_pinch : GoodIn wsL_law wsX9_pinch := goodIn_r _ [458, 20, 15, 106, 107, 108, 19, 109, 86, 110, 111, 112, 113, 114, 115, 116, 117, 118, 119, 120, 121, 122, 14, 123, 124, 30, 125, 32, 126, 34, 127, 36, 40, 128, 41, 129, 130, 131, 43, 132, 64, 65, 133, 134, 135, 136, 137, 138, 66, 139, 140, 141, 142, 143, 144, 145, 146, 147, 63, 148, 149, 70, 150, 151, 152, 153, 154, 155, 156, 157, 158, 159, 160, 45, 161, 162, 163, 164, 165, 166, 167, 168, 169, 170, 171, 47, 172, 173, 174, 175, 176, 177, 178, 179, 180, 49, 181, 182, 183, 80, 184, 185, 186, 39, 187, 54, 188, 55, 56, 57, 189, 190, 459, 460, 461, 462, 463, 464, 243, 244, 245, 246, 202, 203, 204, 2, 205, 206, 207, 208, 209, 931, 932, 933, 934, 956, 957, 958, 945, 946, 947, 948, 949, 950, 951, 952, 953, 954, 955, 972, 973, 974, 975, 976, 977, 978, 979, 980, 981, 982, 983, 984, 985, 986, 1002, 1003, 987, 988, 989, 990, 991, 992, 993, 994, 995, 996, 997, 998, 999, 1000, 1001, 966, 967, 968, 969, 970, 971] (by decide +kernel) (by decide +kernel)
set_option maxRecDepth 20000 in
theorem gL_law_X9_pinch : GoodIn wsL_law (wsV RL 58 RX9 yX9_pinch wsX9_pinch) := goodIn_app (goodIn_of _ (by decide +kernel)) ggL_law_X9_pinch
set_option maxRecDepth 20000 in
theorem ggL_law_X10_pinch : GoodIn wsL_law wsX10_pinch := goodIn_r _ [468, 217, 218, 219, 5, 220, 98, 97, 469, 470, 471, 472, 251, 252, 253, 254, 214, 215, 216, 255, 256, 257, 258, 221, 222, 223, 224, 225, 226, 227, 228, 229, 230, 231, 232, 233, 99, 935, 936, 937, 938, 939, 940, 941, 942, 943, 944] (by decide +kernel) (by decide +kernel)
set_option maxRecDepth 20000 in
theorem gL_law_X10_pinch : GoodIn wsL_law (wsV RL 61 RX10 yX10_pinch wsX10_pinch) := goodIn_app (goodIn_of _ (by decide +kernel)) ggL_law_X10_pinch
set_option maxRecDepth 20000 in
theorem ggL_law_X9_fail : GoodIn wsL_law wsX9_fail := goodIn_r _ [476, 20, 15, 106, 107, 108, 19, 109, 86, 110, 111, 112, 113, 114, 115, 116, 117, 118, 119, 120, 121, 122, 14, 123, 124, 30, 125, 32, 126, 34, 127, 36, 40, 128, 41, 129, 130, 131, 43, 132, 64, 65, 133, 134, 135, 136, 137, 138, 66, 139, 140, 141, 142, 143, 144, 145, 146, 147, 63, 148, 149, 70, 150, 151, 152, 153, 154, 155, 156, 157, 158, 159, 160, 45, 161, 162, 163, 164, 165, 166, 167, 168, 169, 170, 171, 47, 172, 173, 174, 175, 176, 177, 178, 179, 180, 49, 181, 182, 183, 80, 184, 185, 186, 39, 187, 54, 188, 55, 56, 57, 189, 190, 477, 478, 479, 480, 463, 481, 243, 244, 245, 246, 482, 483, 484, 485, 464, 486, 487, 488, 489, 490, 491, 492, 493, 494, 495, 496, 497, 498, 499, 442, 500, 501, 395, 502, 503, 398, 399, 400, 401, 326, 327, 328, 329, 504, 505, 506, 507, 508, 509, 510, 286, 287, 288, 289, 511, 512, 2, 513, 206, 207, 208, 209, 931, 932, 933, 934, 956, 957, 958, 945, 946, 947, 948, 949, 950, 951, 952, 953, 954, 955, 972, 973, 974, 975, 976, 977, 978, 979, 980, 981, 982, 983, 984, 985, 986, 1002, 1003, 987, 988, 989, 990, 991, 992, 993, 994, 995, 996, 997, 998, 999, 1000, 1001, 966, 967, 968, 969, 970, 971] (by decide +kernel) (by decide +kernel)
set_option maxRecDepth 20000 in
theorem gL_law_X9_fail : GoodIn wsL_law (wsV RL 62 RX9 yX9_fail wsX9_fail) := goodIn_app (goodIn_of _ (by decide +kernel)) ggL_law_X9_fail
set_option maxRecDepth 20000 in
theorem ggL_law_X10_fail : GoodIn wsL_law wsX10_fail := goodIn_r _ [517, 251, 252, 253, 5, 254, 97, 214, 215, 216, 255, 256, 257, 258, 217, 218, 219, 220, 98, 518, 519, 520, 521, 221, 222, 223, 224, 522, 523, 524, 525, 526, 527, 528, 529, 379, 380, 381, 382, 229, 230, 231, 232, 233, 99, 935, 936, 937, 938, 939, 940, 941, 942, 943, 944] (by decide +kernel) (by decide +kernel)
set_option maxRecDepth 20000 in
theorem gL_law_X10_fail : GoodIn wsL_law (wsV RL 65 RX10 yX10_fail wsX10_fail) := goodIn_app (goodIn_of _ (by decide +kernel)) ggL_law_X10_fail
set_option maxRecDepth 20000 in
theorem ggL_law_X9_repair : GoodIn wsL_law wsX9_repair := goodIn_r _ [533, 20, 15, 106, 107, 108, 19, 109, 86, 110, 111, 112, 113, 114, 115, 116, 117, 118, 119, 120, 121, 122, 14, 123, 124, 30, 125, 32, 126, 34, 127, 36, 40, 128, 41, 129, 130, 131, 43, 132, 64, 65, 133, 134, 135, 136, 137, 138, 66, 139, 140, 141, 142, 143, 144, 145, 146, 147, 63, 148, 149, 70, 150, 151, 152, 153, 154, 155, 156, 157, 158, 159, 160, 45, 161, 162, 163, 164, 165, 166, 167, 168, 169, 170, 171, 47, 172, 173, 174, 175, 176, 177, 178, 179, 180, 49, 181, 182, 183, 80, 184, 185, 186, 39, 187, 54, 188, 55, 56, 57, 189, 190, 534, 535, 536, 537, 463, 464, 243, 244, 245, 246, 486, 487, 488, 489, 490, 491, 492, 493, 494, 495, 434, 435, 436, 437, 201, 202, 203, 204, 2, 205, 206, 207, 208, 209, 931, 932, 933, 934, 956, 957, 958, 945, 946, 947, 948, 949, 950, 951, 952, 953, 954, 955, 972, 973, 974, 975, 976, 977, 978, 979, 980, 981, 982, 983, 984, 985, 986, 1002, 1003, 987, 988, 989, 990, 991, 992, 993, 994, 995, 996, 997, 998, 999, 1000, 1001, 966, 967, 968, 969, 970, 971] (by decide +kernel) (by decide +kernel)
set_option maxRecDepth 20000 in
theorem gL_law_X9_repair : GoodIn wsL_law (wsV RL 66 RX9 yX9_repair wsX9_repair) := goodIn_app (goodIn_of _ (by decide +kernel)) ggL_law_X9_repair
set_option maxRecDepth 20000 in
theorem ggL_law_X10_repair : GoodIn wsL_law wsX10_repair := goodIn_r _ [541, 251, 252, 253, 5, 254, 97, 214, 215, 216, 255, 256, 257, 258, 217, 218, 219, 220, 98, 542, 543, 544, 545, 221, 222, 223, 224, 522, 523, 524, 525, 418, 419, 420, 421, 422, 423, 424, 425, 414, 415, 416, 417, 225, 226, 227, 228, 229, 230, 231, 232, 233, 99, 935, 936, 937, 938, 939, 940, 941, 942, 943, 944] (by decide +kernel) (by decide +kernel)
set_option maxRecDepth 20000 in
theorem gL_law_X10_repair : GoodIn wsL_law (wsV RL 69 RX10 yX10_repair wsX10_repair) := goodIn_app (goodIn_of _ (by decide +kernel)) ggL_law_X10_repair
set_option maxRecDepth 20000 in
theorem ggL_law_X9_pass : GoodIn wsL_law wsX9_pass := goodIn_r _ [549, 20, 15, 106, 107, 108, 19, 109, 86, 110, 111, 112, 113, 114, 115, 116, 117, 118, 119, 120, 121, 122, 14, 123, 124, 30, 125, 32, 126, 34, 127, 36, 40, 128, 41, 129, 130, 131, 43, 132, 64, 65, 133, 134, 135, 136, 137, 138, 66, 139, 140, 141, 142, 143, 144, 145, 146, 147, 63, 148, 149, 70, 150, 151, 152, 153, 154, 155, 156, 157, 158, 159, 160, 45, 161, 162, 163, 164, 165, 166, 167, 168, 169, 170, 171, 47, 172, 173, 174, 175, 176, 177, 178, 179, 180, 49, 181, 182, 183, 80, 184, 185, 186, 39, 187, 54, 188, 55, 56, 57, 189, 190, 550, 551, 552, 553, 195, 2, 196, 554, 555, 556, 557, 463, 558, 559, 560, 481, 561, 562, 563, 564, 500, 565, 502, 395, 566, 567, 568, 569, 570, 571, 242, 358, 396, 572, 443, 444, 445, 446, 398, 399, 400, 401, 573, 574, 575, 576, 577, 578, 579, 580, 509, 325, 508, 510, 581, 284, 326, 327, 328, 329, 286, 287, 288, 289, 582, 583, 584, 585, 490, 491, 492, 493, 494, 495, 586, 587, 588, 589, 590, 486, 487, 488, 489, 591, 592, 593, 594, 464, 595, 482, 483, 484, 485, 596, 597, 598, 599, 496, 497, 498, 499, 442, 501, 503, 504, 505, 506, 507, 600, 601, 602, 603, 604, 202, 203, 204, 205, 206, 207, 208, 209, 931, 932, 933, 934, 956, 957, 958, 945, 946, 947, 948, 949, 950, 951, 952, 953, 954, 955, 972, 973, 974, 975, 976, 977, 978, 979, 980, 981, 982, 983, 984, 985, 986, 1002, 1003, 987, 988, 989, 990, 991, 992, 993, 994, 995, 996, 997, 998, 999, 1000, 1001, 966, 967, 968, 969, 970, 971] (by decide +kernel) (by decide +kernel)
set_option maxRecDepth 20000 in
theorem gL_law_X9_pass : GoodIn wsL_law (wsV RL 70 RX9 yX9_pass wsX9_pass) := goodIn_app (goodIn_of _ (by decide +kernel)) ggL_law_X9_pass
set_option maxRecDepth 20000 in
theorem ggL_law_X10_pass : GoodIn wsL_law wsX10_pass := goodIn_r _ [608, 217, 218, 219, 5, 220, 98, 97, 609, 610, 611, 612, 214, 215, 216, 613, 614, 615, 616, 255, 256, 257, 258, 617, 618, 619, 620, 621, 622, 623, 624, 625, 626, 627, 628, 629, 630, 631, 632, 451, 452, 453, 454, 422, 423, 424, 425, 414, 415, 416, 417, 633, 634, 635, 636, 637, 638, 639, 640, 641, 642, 643, 644, 645, 646, 647, 648, 649, 650, 651, 652, 379, 380, 381, 382, 221, 222, 223, 224, 522, 523, 524, 525, 542, 543, 544, 545, 653, 654, 655, 656, 518, 519, 520, 521, 526, 527, 528, 529, 657, 658, 659, 660, 225, 226, 227, 228, 229, 230, 231, 232, 233, 99, 935, 936, 937, 938, 939, 940, 941, 942, 943, 944] (by decide +kernel) (by decide +kernel)
set_option maxRecDepth 20000 in
theorem gL_law_X10_pass : GoodIn wsL_law (wsV RL 73 RX10 yX10_pass wsX10_pass) := goodIn_app (goodIn_of _ (by decide +kernel)) ggL_law_X10_pass
set_option maxRecDepth 20000 in
theorem ggL_law_X9_type : GoodIn wsL_law wsX9_type := goodIn_r _ [664, 24, 665, 666, 667, 23, 668, 669, 92, 931, 932, 933, 934, 959, 960, 961, 962, 963, 964, 965] (by decide +kernel) (by decide +kernel)
set_option maxRecDepth 20000 in
theorem gL_law_X9_type : GoodIn wsL_law (wsV RL 74 RX9 yX9_type wsX9_type) := goodIn_app (goodIn_of _ (by decide +kernel)) ggL_law_X9_type
set_option maxRecDepth 20000 in
theorem ggL_law_X10_type : GoodIn wsL_law wsX10_type := goodIn_r _ [673, 674, 100, 935, 936, 937, 938, 939, 940, 941, 942, 943, 944] (by decide +kernel) (by decide +kernel)
set_option maxRecDepth 20000 in
theorem gL_law_X10_type : GoodIn wsL_law (wsV RL 78 RX10 yX10_type wsX10_type) := goodIn_app (goodIn_of _ (by decide +kernel)) ggL_law_X10_type
set_option maxRecDepth 20000 in
theorem ggL_law_X9_clearText : GoodIn wsL_law wsX9_clearText := goodIn_r _ [678, 24, 679, 680, 681, 23, 682, 669, 931, 932, 933, 934, 959, 960, 961, 962, 963, 964, 965] (by decide +kernel) (by decide +kernel)
set_option maxRecDepth 20000 in
theorem gL_law_X9_clearText : GoodIn wsL_law (wsV RL 79 RX9 yX9_clearText wsX9_clearText) := goodIn_app (goodIn_of _ (by decide +kernel)) ggL_law_X9_clearText
set_option maxRecDepth 20000 in
theorem ggL_law_X10_clearText : GoodIn wsL_law wsX10_clearText := goodIn_r _ [686, 674, 935, 936, 937, 938, 939, 940, 941, 942, 943, 944] (by decide +kernel) (by decide +kernel)
set_option maxRecDepth 20000 in
theorem gL_law_X10_clearText : GoodIn wsL_law (wsV RL 83 RX10 yX10_clearText wsX10_clearText) := goodIn_app (goodIn_of _ (by decide +kernel)) ggL_law_X10_clearText
set_option maxRecDepth 20000 in
theorem ggL_law_X9_run : GoodIn wsL_law wsX9_run := goodIn_r _ [690, 24, 15, 691, 20, 692, 693, 694, 23, 695, 696, 669, 697, 698, 699, 700, 701, 702, 703, 704, 705, 706, 707, 708, 709, 92, 710, 711, 712, 713, 714, 715, 716, 717, 718, 719, 720, 721, 722, 723, 724, 725, 726, 727, 728, 106, 107, 108, 19, 109, 86, 110, 111, 112, 113, 114, 115, 116, 117, 118, 119, 120, 121, 122, 14, 123, 124, 30, 125, 32, 126, 34, 127, 36, 40, 128, 41, 129, 130, 131, 43, 132, 64, 65, 133, 134, 135, 136, 137, 138, 66, 139, 140, 141, 142, 143, 144, 145, 146, 147, 63, 148, 149, 70, 150, 151, 152, 153, 154, 155, 156, 157, 158, 159, 160, 45, 161, 162, 163, 164, 165, 166, 167, 168, 169, 170, 171, 47, 172, 173, 174, 175, 176, 177, 178, 179, 180, 49, 181, 182, 183, 80, 184, 185, 186, 39, 187, 54, 188, 55, 56, 57, 189, 190, 206, 207, 208, 209, 729, 730, 731, 732, 733, 2, 734, 735, 736, 737, 738, 354, 355, 356, 357, 358, 243, 244, 245, 246, 326, 327, 328, 329, 359, 360, 361, 362, 363, 364, 365, 366, 367, 368, 369, 370, 391, 392, 393, 394, 395, 396, 397, 398, 399, 400, 401, 550, 551, 552, 553, 195, 196, 554, 555, 556, 557, 463, 558, 559, 560, 481, 561, 562, 563, 564, 500, 565, 502, 566, 567, 568, 569, 570, 571, 242, 572, 443, 444, 445, 446, 573, 574, 575, 576, 577, 578, 579, 580, 509, 325, 508, 510, 581, 284, 286, 287, 288, 289, 582, 583, 584, 585, 490, 491, 492, 493, 494, 495, 586, 587, 588, 589, 590, 486, 487, 488, 489, 591, 592, 593, 594, 464, 595, 482, 483, 484, 485, 596, 597, 598, 599, 496, 497, 498, 499, 442, 501, 503, 504, 505, 506, 507, 600, 601, 602, 603, 604, 459, 460, 461, 462, 511, 512, 513, 931, 932, 933, 934, 945, 946, 947, 948, 949, 950, 951, 952, 953, 954, 955, 959, 960, 961, 962, 963, 964, 965, 956, 957, 958, 972, 973, 974, 975, 976, 977, 978, 979, 980, 981, 982, 983, 984, 985, 986, 1002, 1003, 987, 988, 989, 990, 991, 992, 993, 994, 995, 996, 997, 998, 999, 1000, 1001, 966, 967, 968, 969, 970, 971] (by decide +kernel) (by decide +kernel)
set_option maxRecDepth 20000 in
theorem gL_law_X9_run : GoodIn wsL_law (wsV RL 84 RX9 yX9_run wsX9_run) := goodIn_app (goodIn_of _ (by decide +kernel)) ggL_law_X9_run
set_option maxRecDepth 20000 in
theorem ggL_law_X10_run : GoodIn wsL_law wsX10_run := goodIn_r _ [742, 743, 744, 745, 674, 746, 747, 748, 5, 749, 97, 101, 750, 751, 752, 753, 754, 755, 756, 757, 100, 758, 759, 760, 761, 762, 763, 764, 765, 217, 218, 219, 220, 98, 766, 767, 768, 769, 375, 376, 377, 378, 251, 252, 253, 254, 214, 215, 216, 334, 335, 336, 337, 379, 380, 381, 382, 383, 384, 385, 386, 406, 407, 408, 409, 410, 411, 412, 413, 414, 415, 416, 417, 418, 419, 420, 421, 422, 423, 424, 425, 609, 610, 611, 612, 613, 614, 615, 616, 255, 256, 257, 258, 617, 618, 619, 620, 621, 622, 623, 624, 625, 626, 627, 628, 629, 630, 631, 632, 451, 452, 453, 454, 633, 634, 635, 636, 637, 638, 639, 640, 641, 642, 643, 644, 645, 646, 647, 648, 649, 650, 651, 652, 221, 222, 223, 224, 522, 523, 524, 525, 542, 543, 544, 545, 653, 654, 655, 656, 518, 519, 520, 521, 526, 527, 528, 529, 657, 658, 659, 660, 469, 470, 471, 472, 770, 771, 772, 229, 230, 231, 232, 233, 99, 935, 936, 937, 938, 939, 940, 941, 942, 943, 944] (by decide +kernel) (by decide +kernel)
set_option maxRecDepth 20000 in
theorem gL_law_X10_run : GoodIn wsL_law (wsV RL 87 RX10 yX10_run wsX10_run) := goodIn_app (goodIn_of _ (by decide +kernel)) ggL_law_X10_run
set_option maxRecDepth 20000 in
theorem ggL_law_X9_undo : GoodIn wsL_law wsX9_undo := goodIn_r _ [776, 20, 777, 15, 778, 779, 780, 19, 781, 110, 782, 783, 152, 784, 86, 111, 112, 113, 114, 115, 116, 117, 118, 119, 785, 121, 122, 14, 123, 124, 30, 125, 32, 126, 34, 127, 36, 40, 128, 41, 129, 130, 131, 43, 132, 64, 65, 133, 134, 135, 136, 137, 138, 66, 139, 140, 141, 142, 143, 144, 145, 146, 147, 63, 148, 149, 70, 150, 151, 153, 154, 155, 156, 157, 158, 159, 160, 45, 161, 162, 163, 164, 165, 166, 167, 168, 169, 170, 171, 47, 172, 173, 174, 175, 176, 177, 178, 179, 180, 49, 181, 182, 183, 80, 184, 185, 186, 39, 187, 54, 188, 55, 56, 57, 189, 190, 931, 932, 933, 934, 956, 957, 958, 945, 946, 947, 948, 949, 950, 951, 952, 953, 954, 955, 972, 973, 974, 975, 976, 977, 978, 979, 980, 981, 982, 983, 984, 985, 986, 1002, 1003, 987, 988, 989, 990, 991, 992, 993, 994, 995, 996, 997, 998, 999, 1000, 1001, 966, 967, 968, 969, 970, 971] (by decide +kernel) (by decide +kernel)
set_option maxRecDepth 20000 in
theorem gL_law_X9_undo : GoodIn wsL_law (wsV RL 88 RX9 yX9_undo wsX9_undo) := goodIn_app (goodIn_of _ (by decide +kernel)) ggL_law_X9_undo
set_option maxRecDepth 20000 in
theorem ggL_law_X10_undo : GoodIn wsL_law wsX10_undo := goodIn_r _ [789, 233, 97, 99, 935, 936, 937, 938, 939, 940, 941, 942, 943, 944] (by decide +kernel) (by decide +kernel)
set_option maxRecDepth 20000 in
theorem gL_law_X10_undo : GoodIn wsL_law (wsV RL 91 RX10 yX10_undo wsX10_undo) := goodIn_app (goodIn_of _ (by decide +kernel)) ggL_law_X10_undo
set_option maxRecDepth 20000 in
theorem ggL_law_X9_gate : GoodIn wsL_law wsX9_gate := goodIn_r _ [793, 15, 794, 795, 796, 797, 798, 799, 800, 801, 802, 803, 804, 805, 806, 244, 245, 14, 246, 124, 30, 931, 932, 933, 934, 972, 973, 974, 975, 976, 977, 978, 979, 980, 981, 982, 983, 984, 985, 986, 1002, 1003, 945, 946, 947, 948, 949, 950, 951, 952, 953, 954, 955] (by decide +kernel) (by decide +kernel)
set_option maxRecDepth 20000 in
theorem gL_law_X9_gate : GoodIn wsL_law (wsV RL 92 RX9 yX9_gate wsX9_gate) := goodIn_app (goodIn_of _ (by decide +kernel)) ggL_law_X9_gate
set_option maxRecDepth 20000 in
theorem ggL_law_X10_gate : GoodIn wsL_law wsX10_gate := goodIn_r _ [810, 251, 252, 253, 5, 254, 97, 214, 215, 216, 255, 256, 257, 258, 418, 419, 420, 421, 422, 423, 424, 425, 414, 415, 416, 417, 935, 936, 937, 938, 939, 940, 941, 942, 943, 944] (by decide +kernel) (by decide +kernel)
set_option maxRecDepth 20000 in
theorem gL_law_X10_gate : GoodIn wsL_law (wsV RL 95 RX10 yX10_gate wsX10_gate) := goodIn_app (goodIn_of _ (by decide +kernel)) ggL_law_X10_gate
set_option maxRecDepth 20000 in
theorem ggL_law_X9_queued : GoodIn wsL_law wsX9_queued := goodIn_r _ [814, 15, 798, 800, 806, 244, 245, 14, 246, 124, 30, 815, 444, 445, 63, 446, 149, 70, 931, 932, 933, 934, 972, 973, 974, 975, 976, 977, 978, 979, 980, 981, 982, 983, 984, 985, 986, 945, 946, 947, 948, 949, 950, 951, 952, 953, 954, 955, 1002, 1003] (by decide +kernel) (by decide +kernel)
set_option maxRecDepth 20000 in
theorem gL_law_X9_queued : GoodIn wsL_law (wsV RL 96 RX9 yX9_queued wsX9_queued) := goodIn_app (goodIn_of _ (by decide +kernel)) ggL_law_X9_queued
set_option maxRecDepth 20000 in
theorem ggL_law_X10_queued : GoodIn wsL_law wsX10_queued := goodIn_r _ [819, 251, 252, 253, 5, 254, 97, 214, 215, 216, 451, 452, 453, 454, 422, 423, 424, 425, 414, 415, 416, 417, 935, 936, 937, 938, 939, 940, 941, 942, 943, 944] (by decide +kernel) (by decide +kernel)
set_option maxRecDepth 20000 in
theorem gL_law_X10_queued : GoodIn wsL_law (wsV RL 100 RX10 yX10_queued wsX10_queued) := goodIn_app (goodIn_of _ (by decide +kernel)) ggL_law_X10_queued
set_option maxRecDepth 20000 in
theorem ggL_law_X9_person : GoodIn wsL_law wsX9_person := goodIn_r _ [823, 15, 824, 825, 826, 827, 828, 829, 830, 831, 399, 400, 14, 401, 125, 32, 832, 833, 834, 45, 835, 164, 931, 932, 933, 934, 987, 988, 989, 990, 991, 992, 993, 945, 946, 947, 948, 949, 950, 951, 952, 953, 954, 955] (by decide +kernel) (by decide +kernel)
set_option maxRecDepth 20000 in
theorem gL_law_X9_person : GoodIn wsL_law (wsV RL 101 RX9 yX9_person wsX9_person) := goodIn_app (goodIn_of _ (by decide +kernel)) ggL_law_X9_person
set_option maxRecDepth 20000 in
theorem ggL_law_X10_person : GoodIn wsL_law wsX10_person := goodIn_r _ [839, 410, 411, 412, 5, 413, 97, 214, 215, 216, 414, 415, 416, 417, 633, 634, 635, 636, 935, 936, 937, 938, 939, 940, 941, 942, 943, 944] (by decide +kernel) (by decide +kernel)
set_option maxRecDepth 20000 in
theorem gL_law_X10_person : GoodIn wsL_law (wsV RL 104 RX10 yX10_person wsX10_person) := goodIn_app (goodIn_of _ (by decide +kernel)) ggL_law_X10_person
set_option maxRecDepth 20000 in
theorem ggL_law_X9_pool : GoodIn wsL_law wsX9_pool := goodIn_r _ [843, 15, 844, 845, 846, 847, 848, 849, 287, 288, 14, 289, 126, 34, 931, 932, 933, 934, 994, 995, 996, 997, 998, 945, 946, 947, 948, 949, 950, 951, 952, 953, 954, 955] (by decide +kernel) (by decide +kernel)
set_option maxRecDepth 20000 in
theorem gL_law_X9_pool : GoodIn wsL_law (wsV RL 105 RX9 yX9_pool wsX9_pool) := goodIn_app (goodIn_of _ (by decide +kernel)) ggL_law_X9_pool
set_option maxRecDepth 20000 in
theorem ggL_law_X10_pool : GoodIn wsL_law wsX10_pool := goodIn_r _ [853, 97, 296, 297, 298, 5, 299, 214, 215, 216, 645, 646, 647, 648, 649, 650, 651, 652, 414, 415, 416, 417, 935, 936, 937, 938, 939, 940, 941, 942, 943, 944] (by decide +kernel) (by decide +kernel)
set_option maxRecDepth 20000 in
theorem gL_law_X10_pool : GoodIn wsL_law (wsV RL 108 RX10 yX10_pool wsX10_pool) := goodIn_app (goodIn_of _ (by decide +kernel)) ggL_law_X10_pool
set_option maxRecDepth 20000 in
theorem ggL_law_X9_passOf : GoodIn wsL_law wsX9_passOf := goodIn_r _ [857, 15, 858, 859, 860, 861, 327, 328, 14, 329, 127, 36, 931, 932, 933, 934, 999, 1000, 1001, 945, 946, 947, 948, 949, 950, 951, 952, 953, 954, 955] (by decide +kernel) (by decide +kernel)
set_option maxRecDepth 20000 in
theorem gL_law_X9_passOf : GoodIn wsL_law (wsV RL 109 RX9 yX9_passOf wsX9_passOf) := goodIn_app (goodIn_of _ (by decide +kernel)) ggL_law_X9_passOf
set_option maxRecDepth 20000 in
theorem ggL_law_X10_passOf : GoodIn wsL_law wsX10_passOf := goodIn_r _ [865, 97, 334, 335, 336, 5, 337, 214, 215, 216, 641, 642, 643, 644, 414, 415, 416, 417, 935, 936, 937, 938, 939, 940, 941, 942, 943, 944] (by decide +kernel) (by decide +kernel)
set_option maxRecDepth 20000 in
theorem gL_law_X10_passOf : GoodIn wsL_law (wsV RL 112 RX10 yX10_passOf wsX10_passOf) := goodIn_app (goodIn_of _ (by decide +kernel)) ggL_law_X10_passOf
set_option maxRecDepth 20000 in
theorem ggL_law_X9_event : GoodIn wsL_law wsX9_event := goodIn_r _ [869, 15, 870, 871, 872, 873, 39, 874, 189, 190, 54, 55, 56, 57, 495, 117, 118, 119, 931, 932, 933, 934, 945, 946, 947, 948, 949, 950, 951, 952, 953, 954, 955, 966, 967, 968, 969, 970, 971] (by decide +kernel) (by decide +kernel)
set_option maxRecDepth 20000 in
theorem gL_law_X9_event : GoodIn wsL_law (wsV RL 113 RX9 yX9_event wsX9_event) := goodIn_app (goodIn_of _ (by decide +kernel)) ggL_law_X9_event
set_option maxRecDepth 20000 in
theorem ggL_law_X10_event : GoodIn wsL_law wsX10_event := goodIn_r _ [878, 97, 214, 215, 5, 216, 935, 936, 937, 938, 939, 940, 941, 942, 943, 944] (by decide +kernel) (by decide +kernel)
set_option maxRecDepth 20000 in
theorem gL_law_X10_event : GoodIn wsL_law (wsV RL 116 RX10 yX10_event wsX10_event) := goodIn_app (goodIn_of _ (by decide +kernel)) ggL_law_X10_event
set_option maxRecDepth 20000 in
theorem ggL_law_X9_passesIn : GoodIn wsL_law wsX9_passesIn := goodIn_r _ [882, 15, 824, 16, 831, 399, 400, 14, 401, 125, 32, 832, 833, 834, 45, 835, 164, 785, 121, 122, 123, 124, 30, 126, 34, 127, 36, 40, 128, 41, 129, 130, 131, 43, 132, 64, 65, 133, 134, 135, 136, 137, 138, 66, 139, 140, 141, 142, 143, 144, 145, 146, 147, 63, 148, 149, 70, 150, 151, 152, 153, 154, 155, 156, 157, 158, 159, 160, 161, 162, 163, 165, 166, 167, 168, 169, 170, 171, 47, 172, 173, 174, 175, 176, 177, 178, 179, 180, 49, 181, 182, 183, 80, 184, 185, 186, 39, 187, 54, 188, 55, 56, 57, 189, 190, 883, 884, 885, 886, 395, 398, 887, 551, 552, 553, 195, 2, 196, 554, 555, 556, 557, 463, 558, 559, 560, 481, 561, 562, 563, 564, 500, 565, 502, 566, 567, 568, 569, 570, 571, 242, 358, 396, 572, 443, 444, 445, 446, 573, 574, 575, 576, 577, 578, 579, 580, 509, 325, 508, 510, 581, 284, 326, 327, 328, 329, 286, 287, 288, 289, 582, 583, 584, 585, 490, 491, 492, 493, 494, 495, 117, 118, 119, 586, 587, 588, 589, 590, 486, 487, 488, 489, 591, 592, 593, 594, 464, 595, 482, 483, 484, 485, 596, 597, 598, 599, 496, 497, 498, 499, 442, 501, 503, 504, 505, 506, 507, 600, 601, 602, 603, 604, 931, 932, 933, 934, 987, 988, 989, 990, 991, 992, 993, 945, 946, 947, 948, 949, 950, 951, 952, 953, 954, 955, 972, 973, 974, 975, 976, 977, 978, 979, 980, 981, 982, 983, 984, 985, 986, 1002, 1003, 994, 995, 996, 997, 998, 999, 1000, 1001, 966, 967, 968, 969, 970, 971] (by decide +kernel) (by decide +kernel)
set_option maxRecDepth 20000 in
theorem gL_law_X9_passesIn : GoodIn wsL_law (wsV RL 117 RX9 yX9_passesIn wsX9_passesIn) := goodIn_app (goodIn_of _ (by decide +kernel)) ggL_law_X9_passesIn
set_option maxRecDepth 20000 in
theorem ggL_law_X10_passesIn : GoodIn wsL_law wsX10_passesIn := goodIn_r _ [891, 410, 411, 412, 5, 413, 97, 214, 215, 216, 414, 415, 416, 417, 217, 218, 219, 220, 98, 617, 618, 619, 620, 621, 622, 623, 624, 255, 256, 257, 258, 625, 626, 627, 628, 629, 630, 631, 632, 451, 452, 453, 454, 422, 423, 424, 425, 633, 634, 635, 636, 637, 638, 639, 640, 641, 642, 643, 644, 645, 646, 647, 648, 649, 650, 651, 652, 379, 380, 381, 382, 221, 222, 223, 224, 522, 523, 524, 525, 542, 543, 544, 545, 653, 654, 655, 656, 518, 519, 520, 521, 526, 527, 528, 529, 657, 658, 659, 660, 892, 893, 894, 895, 935, 936, 937, 938, 939, 940, 941, 942, 943, 944] (by decide +kernel) (by decide +kernel)
set_option maxRecDepth 20000 in
theorem gL_law_X10_passesIn : GoodIn wsL_law (wsV RL 120 RX10 yX10_passesIn wsX10_passesIn) := goodIn_app (goodIn_of _ (by decide +kernel)) ggL_law_X10_passesIn
set_option maxRecDepth 20000 in
theorem ggL_law_X9_count : GoodIn wsL_law wsX9_count := goodIn_r _ [899, 15, 829, 691, 900, 901, 20, 777, 24, 902, 903, 904, 905, 14, 906, 125, 32, 395, 907, 908, 909, 910, 124, 30, 565, 911, 912, 913, 914, 126, 34, 590, 915, 916, 917, 918, 434, 435, 436, 43, 437, 64, 201, 65, 931, 932, 933, 934, 945, 946, 947, 948, 949, 950, 951, 952, 953, 954, 955, 956, 957, 958, 959, 960, 961, 962, 963, 964, 965, 987, 988, 989, 990, 991, 992, 993, 972, 973, 974, 975, 976, 977, 978, 979, 980, 981, 982, 983, 984, 985, 986, 994, 995, 996, 997, 998, 1002, 1003] (by decide +kernel) (by decide +kernel)
set_option maxRecDepth 20000 in
theorem gL_law_X9_count : GoodIn wsL_law (wsV RL 121 RX9 yX9_count wsX9_count) := goodIn_app (goodIn_of _ (by decide +kernel)) ggL_law_X9_count
set_option maxRecDepth 20000 in
theorem ggL_law_X10_count : GoodIn wsL_law wsX10_count := goodIn_r _ [922, 97, 233, 674, 255, 256, 257, 5, 258, 923, 924, 925, 926, 414, 415, 416, 417, 214, 215, 216, 927, 928, 929, 930, 418, 419, 420, 421, 422, 423, 424, 425, 935, 936, 937, 938, 939, 940, 941, 942, 943, 944] (by decide +kernel) (by decide +kernel)
set_option maxRecDepth 20000 in
theorem gL_law_X10_count : GoodIn wsL_law (wsV RL 124 RX10 yX10_count wsX10_count) := goodIn_app (goodIn_of _ (by decide +kernel)) ggL_law_X10_count
