theorem dX10_readOrder_54 : decode cX10_readOrder 54 = .ok (.iload_n 1, 1) := by decide +kernel
theorem dX10_readOrder_55 : decode cX10_readOrder 55 = .ok (.iconst 1, 1) := by decide +kernel
theorem dX10_readOrder_56 : decode cX10_readOrder 56 = .ok (.iadd, 1) := by decide +kernel
theorem dX10_readOrder_57 : decode cX10_readOrder 57 = .ok (.aload_n 0, 1) := by decide +kernel
theorem dX10_readOrder_58 : decode cX10_readOrder 58 = .ok (.iconst 0, 1) := by decide +kernel
theorem dX10_readOrder_59 : decode cX10_readOrder 59 = .ok (.iload_n 2, 1) := by decide +kernel
theorem dX10_readOrder_60 : decode cX10_readOrder 60 = .ok (.invokevirtual 164, 3) := by decide +kernel
theorem dX10_readOrder_63 : decode cX10_readOrder 63 = .ok (.iastore, 1) := by decide +kernel
theorem dX10_readOrder_64 : decode cX10_readOrder 64 = .ok (.aload_n 0, 1) := by decide +kernel
theorem dX10_readOrder_65 : decode cX10_readOrder 65 = .ok (.getfield 23, 3) := by decide +kernel
theorem dX10_readOrder_68 : decode cX10_readOrder 68 = .ok (.iload_n 1, 1) := by decide +kernel
theorem dX10_readOrder_69 : decode cX10_readOrder 69 = .ok (.iconst 2, 1) := by decide +kernel
theorem dX10_readOrder_70 : decode cX10_readOrder 70 = .ok (.iadd, 1) := by decide +kernel
theorem dX10_readOrder_71 : decode cX10_readOrder 71 = .ok (.aload_n 0, 1) := by decide +kernel
theorem dX10_readOrder_72 : decode cX10_readOrder 72 = .ok (.bipush 112, 2) := by decide +kernel
theorem dX10_readOrder_74 : decode cX10_readOrder 74 = .ok (.invokevirtual 170, 3) := by decide +kernel
theorem dX10_readOrder_77 : decode cX10_readOrder 77 = .ok (.ifCond .eq 11, 3) := by decide +kernel
theorem dX10_readOrder_80 : decode cX10_readOrder 80 = .ok (.aload_n 0, 1) := by decide +kernel
theorem dX10_readOrder_81 : decode cX10_readOrder 81 = .ok (.iconst 0, 1) := by decide +kernel
theorem dX10_readOrder_82 : decode cX10_readOrder 82 = .ok (.invokevirtual 174, 3) := by decide +kernel
theorem dX10_readOrder_85 : decode cX10_readOrder 85 = .ok (.goto 4, 3) := by decide +kernel
theorem dX10_readOrder_88 : decode cX10_readOrder 88 = .ok (.iconst (-1), 1) := by decide +kernel
theorem dX10_readOrder_89 : decode cX10_readOrder 89 = .ok (.iastore, 1) := by decide +kernel
theorem dX10_readOrder_90 : decode cX10_readOrder 90 = .ok (.aload_n 0, 1) := by decide +kernel
theorem dX10_readOrder_91 : decode cX10_readOrder 91 = .ok (.getfield 23, 3) := by decide +kernel
theorem dX10_readOrder_94 : decode cX10_readOrder 94 = .ok (.iload_n 1, 1) := by decide +kernel
theorem dX10_readOrder_95 : decode cX10_readOrder 95 = .ok (.iconst 3, 1) := by decide +kernel
theorem dX10_readOrder_96 : decode cX10_readOrder 96 = .ok (.iadd, 1) := by decide +kernel
theorem dX10_readOrder_97 : decode cX10_readOrder 97 = .ok (.aload_n 0, 1) := by decide +kernel
theorem dX10_readOrder_98 : decode cX10_readOrder 98 = .ok (.bipush 115, 2) := by decide +kernel
theorem dX10_readOrder_100 : decode cX10_readOrder 100 = .ok (.invokevirtual 170, 3) := by decide +kernel
theorem dX10_readOrder_103 : decode cX10_readOrder 103 = .ok (.ifCond .eq 7, 3) := by decide +kernel
theorem dX10_readOrder_106 : decode cX10_readOrder 106 = .ok (.iconst 1, 1) := by decide +kernel
theorem dX10_readOrder_107 : decode cX10_readOrder 107 = .ok (.goto 4, 3) := by decide +kernel
theorem dX10_readOrder_110 : decode cX10_readOrder 110 = .ok (.iconst 0, 1) := by decide +kernel
theorem dX10_readOrder_111 : decode cX10_readOrder 111 = .ok (.iastore, 1) := by decide +kernel
theorem dX10_readOrder_112 : decode cX10_readOrder 112 = .ok (.goto 129, 3) := by decide +kernel
theorem dX10_readOrder_115 : decode cX10_readOrder 115 = .ok (.aload_n 0, 1) := by decide +kernel
theorem dX10_readOrder_116 : decode cX10_readOrder 116 = .ok (.bipush 111, 2) := by decide +kernel
theorem dX10_readOrder_118 : decode cX10_readOrder 118 = .ok (.invokevirtual 170, 3) := by decide +kernel
theorem dX10_readOrder_121 : decode cX10_readOrder 121 = .ok (.ifCond .eq 50, 3) := by decide +kernel
theorem dX10_readOrder_124 : decode cX10_readOrder 124 = .ok (.aload_n 0, 1) := by decide +kernel
theorem dX10_readOrder_125 : decode cX10_readOrder 125 = .ok (.getfield 23, 3) := by decide +kernel
theorem dX10_readOrder_128 : decode cX10_readOrder 128 = .ok (.iload_n 1, 1) := by decide +kernel
theorem dX10_readOrder_129 : decode cX10_readOrder 129 = .ok (.iconst 1, 1) := by decide +kernel
theorem dX10_readOrder_130 : decode cX10_readOrder 130 = .ok (.iastore, 1) := by decide +kernel
theorem dX10_readOrder_131 : decode cX10_readOrder 131 = .ok (.aload_n 0, 1) := by decide +kernel
theorem dX10_readOrder_132 : decode cX10_readOrder 132 = .ok (.getfield 23, 3) := by decide +kernel
theorem dX10_readOrder_135 : decode cX10_readOrder 135 = .ok (.iload_n 1, 1) := by decide +kernel
theorem dX10_readOrder_136 : decode cX10_readOrder 136 = .ok (.iconst 1, 1) := by decide +kernel
theorem dX10_readOrder_137 : decode cX10_readOrder 137 = .ok (.iadd, 1) := by decide +kernel
theorem dX10_readOrder_138 : decode cX10_readOrder 138 = .ok (.aload_n 0, 1) := by decide +kernel
theorem dX10_readOrder_139 : decode cX10_readOrder 139 = .ok (.iconst 0, 1) := by decide +kernel
theorem dX10_readOrder_140 : decode cX10_readOrder 140 = .ok (.iload_n 2, 1) := by decide +kernel
theorem dX10_readOrder_141 : decode cX10_readOrder 141 = .ok (.invokevirtual 164, 3) := by decide +kernel
theorem dX10_readOrder_144 : decode cX10_readOrder 144 = .ok (.iastore, 1) := by decide +kernel
theorem dX10_readOrder_145 : decode cX10_readOrder 145 = .ok (.aload_n 0, 1) := by decide +kernel
theorem dX10_readOrder_146 : decode cX10_readOrder 146 = .ok (.aload_n 0, 1) := by decide +kernel
theorem dX10_readOrder_147 : decode cX10_readOrder 147 = .ok (.bipush 110, 2) := by decide +kernel
theorem dX10_readOrder_149 : decode cX10_readOrder 149 = .ok (.invokevirtual 170, 3) := by decide +kernel
theorem dX10_readOrder_152 : decode cX10_readOrder 152 = .ok (.putfield 156, 3) := by decide +kernel
theorem dX10_readOrder_155 : decode cX10_readOrder 155 = .ok (.aload_n 0, 1) := by decide +kernel
theorem dX10_readOrder_156 : decode cX10_readOrder 156 = .ok (.getfield 23, 3) := by decide +kernel
theorem dX10_readOrder_159 : decode cX10_readOrder 159 = .ok (.iload_n 1, 1) := by decide +kernel
theorem dX10_readOrder_160 : decode cX10_readOrder 160 = .ok (.iconst 2, 1) := by decide +kernel
theorem dX10_readOrder_161 : decode cX10_readOrder 161 = .ok (.iadd, 1) := by decide +kernel
theorem dX10_readOrder_162 : decode cX10_readOrder 162 = .ok (.aload_n 0, 1) := by decide +kernel
theorem dX10_readOrder_163 : decode cX10_readOrder 163 = .ok (.iconst 0, 1) := by decide +kernel
theorem dX10_readOrder_164 : decode cX10_readOrder 164 = .ok (.invokevirtual 174, 3) := by decide +kernel
theorem dX10_readOrder_167 : decode cX10_readOrder 167 = .ok (.iastore, 1) := by decide +kernel
theorem dX10_readOrder_168 : decode cX10_readOrder 168 = .ok (.goto 73, 3) := by decide +kernel
theorem dX10_readOrder_171 : decode cX10_readOrder 171 = .ok (.aload_n 0, 1) := by decide +kernel
theorem dX10_readOrder_172 : decode cX10_readOrder 172 = .ok (.bipush 116, 2) := by decide +kernel
theorem dX10_readOrder_174 : decode cX10_readOrder 174 = .ok (.invokevirtual 170, 3) := by decide +kernel
theorem dX10_readOrder_177 : decode cX10_readOrder 177 = .ok (.ifCond .eq 26, 3) := by decide +kernel
theorem dX10_readOrder_180 : decode cX10_readOrder 180 = .ok (.aload_n 0, 1) := by decide +kernel
theorem dX10_readOrder_181 : decode cX10_readOrder 181 = .ok (.getfield 23, 3) := by decide +kernel
theorem dX10_readOrder_184 : decode cX10_readOrder 184 = .ok (.iload_n 1, 1) := by decide +kernel
theorem dX10_readOrder_185 : decode cX10_readOrder 185 = .ok (.iconst 2, 1) := by decide +kernel
theorem dX10_readOrder_186 : decode cX10_readOrder 186 = .ok (.iastore, 1) := by decide +kernel
theorem dX10_readOrder_187 : decode cX10_readOrder 187 = .ok (.aload_n 0, 1) := by decide +kernel
theorem dX10_readOrder_188 : decode cX10_readOrder 188 = .ok (.getfield 23, 3) := by decide +kernel
theorem dX10_readOrder_191 : decode cX10_readOrder 191 = .ok (.iload_n 1, 1) := by decide +kernel
theorem dX10_readOrder_192 : decode cX10_readOrder 192 = .ok (.iconst 1, 1) := by decide +kernel
theorem dX10_readOrder_193 : decode cX10_readOrder 193 = .ok (.iadd, 1) := by decide +kernel
theorem dX10_readOrder_194 : decode cX10_readOrder 194 = .ok (.aload_n 0, 1) := by decide +kernel
theorem dX10_readOrder_195 : decode cX10_readOrder 195 = .ok (.iconst 1, 1) := by decide +kernel
theorem dX10_readOrder_196 : decode cX10_readOrder 196 = .ok (.invokevirtual 174, 3) := by decide +kernel
theorem dX10_readOrder_199 : decode cX10_readOrder 199 = .ok (.iastore, 1) := by decide +kernel
theorem dX10_readOrder_200 : decode cX10_readOrder 200 = .ok (.goto 41, 3) := by decide +kernel
theorem dX10_readOrder_203 : decode cX10_readOrder 203 = .ok (.aload_n 0, 1) := by decide +kernel
theorem dX10_readOrder_204 : decode cX10_readOrder 204 = .ok (.bipush 120, 2) := by decide +kernel
theorem dX10_readOrder_206 : decode cX10_readOrder 206 = .ok (.invokevirtual 170, 3) := by decide +kernel
theorem dX10_readOrder_209 : decode cX10_readOrder 209 = .ok (.ifCond .eq 27, 3) := by decide +kernel
theorem dX10_readOrder_212 : decode cX10_readOrder 212 = .ok (.aload_n 0, 1) := by decide +kernel
theorem dX10_readOrder_213 : decode cX10_readOrder 213 = .ok (.getfield 23, 3) := by decide +kernel
theorem dX10_readOrder_216 : decode cX10_readOrder 216 = .ok (.iload_n 1, 1) := by decide +kernel
theorem dX10_readOrder_217 : decode cX10_readOrder 217 = .ok (.iconst 3, 1) := by decide +kernel
theorem dX10_readOrder_218 : decode cX10_readOrder 218 = .ok (.iastore, 1) := by decide +kernel
theorem dX10_readOrder_219 : decode cX10_readOrder 219 = .ok (.aload_n 0, 1) := by decide +kernel
theorem dX10_readOrder_220 : decode cX10_readOrder 220 = .ok (.getfield 23, 3) := by decide +kernel
theorem dX10_readOrder_223 : decode cX10_readOrder 223 = .ok (.iload_n 1, 1) := by decide +kernel
theorem dX10_readOrder_224 : decode cX10_readOrder 224 = .ok (.iconst 1, 1) := by decide +kernel
theorem dX10_readOrder_225 : decode cX10_readOrder 225 = .ok (.iadd, 1) := by decide +kernel
theorem dX10_readOrder_226 : decode cX10_readOrder 226 = .ok (.aload_n 0, 1) := by decide +kernel
theorem dX10_readOrder_227 : decode cX10_readOrder 227 = .ok (.iconst 0, 1) := by decide +kernel
theorem dX10_readOrder_228 : decode cX10_readOrder 228 = .ok (.iload_n 2, 1) := by decide +kernel
theorem dX10_readOrder_229 : decode cX10_readOrder 229 = .ok (.invokevirtual 164, 3) := by decide +kernel
theorem dX10_readOrder_232 : decode cX10_readOrder 232 = .ok (.iastore, 1) := by decide +kernel
theorem dX10_readOrder_233 : decode cX10_readOrder 233 = .ok (.goto 8, 3) := by decide +kernel
theorem dX10_readOrder_236 : decode cX10_readOrder 236 = .ok (.aload_n 0, 1) := by decide +kernel
theorem dX10_readOrder_237 : decode cX10_readOrder 237 = .ok (.iconst 0, 1) := by decide +kernel
theorem dX10_readOrder_238 : decode cX10_readOrder 238 = .ok (.putfield 156, 3) := by decide +kernel
theorem dX10_readOrder_241 : decode cX10_readOrder 241 = .ok (.aload_n 0, 1) := by decide +kernel
theorem dX10_readOrder_242 : decode cX10_readOrder 242 = .ok (.dup, 1) := by decide +kernel
theorem dX10_readOrder_243 : decode cX10_readOrder 243 = .ok (.getfield 167, 3) := by decide +kernel
theorem dX10_readOrder_246 : decode cX10_readOrder 246 = .ok (.iconst 1, 1) := by decide +kernel
theorem dX10_readOrder_247 : decode cX10_readOrder 247 = .ok (.iadd, 1) := by decide +kernel
theorem dX10_readOrder_248 : decode cX10_readOrder 248 = .ok (.putfield 167, 3) := by decide +kernel
theorem dX10_readOrder_251 : decode cX10_readOrder 251 = .ok (.return_, 1) := by decide +kernel
set_option maxRecDepth 20000 in
theorem ggX10_carryOut_X10_doEnter : GoodIn wsX10_carryOut wsX10_doEnter := goodIn_r _ [6, 7, 8, 9, 10, 5, 11, 12, 13, 14, 15, 16, 17, 18, 19, 20, 21, 22, 23, 24, 25, 26, 131, 132, 133, 134, 135, 136, 137, 138, 139, 140] (by decide +kernel) (by decide +kernel)
set_option maxRecDepth 20000 in
theorem gX10_carryOut_X10_doEnter : GoodIn wsX10_carryOut (wsV RX10 76 RX10 yX10_doEnter wsX10_doEnter) := goodIn_app (goodIn_of _ (by decide +kernel)) ggX10_carryOut_X10_doEnter
set_option maxRecDepth 20000 in
theorem ggX10_carryOut_X10_doExit : GoodIn wsX10_carryOut wsX10_doExit := goodIn_r _ [30, 7, 8, 9, 10, 5, 11, 12, 13, 14, 31, 32, 33, 34, 35, 36, 37, 38, 19, 20, 21, 22, 23, 24, 25, 26, 39, 40, 41, 42, 43, 44, 45, 46, 131, 132, 133, 134, 135, 136, 137, 138, 139, 140] (by decide +kernel) (by decide +kernel)
set_option maxRecDepth 20000 in
theorem gX10_carryOut_X10_doExit : GoodIn wsX10_carryOut (wsV RX10 86 RX10 yX10_doExit wsX10_doExit) := goodIn_app (goodIn_of _ (by decide +kernel)) ggX10_carryOut_X10_doExit
set_option maxRecDepth 20000 in
theorem ggX10_carryOut_X10_doPass : GoodIn wsX10_carryOut wsX10_doPass := goodIn_r _ [50, 12, 13, 5, 14, 51, 52, 53, 54, 7, 55, 56, 57, 58, 59, 60, 61, 62, 63, 64, 65, 66, 67, 68, 69, 70, 71, 72, 73, 74, 75, 76, 77, 78, 43, 44, 45, 46, 35, 36, 37, 38, 79, 80, 81, 82, 83, 84, 85, 86, 87, 88, 89, 90, 91, 92, 93, 94, 95, 96, 97, 98, 19, 20, 21, 22, 99, 100, 101, 102, 103, 104, 105, 106, 107, 108, 109, 110, 111, 112, 113, 114, 115, 116, 117, 118, 119, 120, 121, 122, 123, 124, 125, 126, 131, 132, 133, 134, 135, 136, 137, 138, 139, 140] (by decide +kernel) (by decide +kernel)
set_option maxRecDepth 20000 in
theorem gX10_carryOut_X10_doPass : GoodIn wsX10_carryOut (wsV RX10 144 RX10 yX10_doPass wsX10_doPass) := goodIn_app (goodIn_of _ (by decide +kernel)) ggX10_carryOut_X10_doPass
set_option maxRecDepth 20000 in
theorem ggX10_carryOut_X10_doPinch : GoodIn wsX10_carryOut wsX10_doPinch := goodIn_r _ [130, 8, 9, 10, 5, 11, 7, 12, 13, 14, 55, 56, 57, 58, 99, 100, 101, 102, 131, 132, 133, 134, 135, 136, 137, 138, 139, 140] (by decide +kernel) (by decide +kernel)
set_option maxRecDepth 20000 in
theorem gX10_carryOut_X10_doPinch : GoodIn wsX10_carryOut (wsV RX10 147 RX10 yX10_doPinch wsX10_doPinch) := goodIn_app (goodIn_of _ (by decide +kernel)) ggX10_carryOut_X10_doPinch
theorem dX10_carryOut_0 : decode cX10_carryOut 0 = .ok (.aload_n 0, 1) := by decide +kernel
theorem dX10_carryOut_1 : decode cX10_carryOut 1 = .ok (.getfield 23, 3) := by decide +kernel
theorem dX10_carryOut_4 : decode cX10_carryOut 4 = .ok (.iload_n 1, 1) := by decide +kernel
theorem dX10_carryOut_5 : decode cX10_carryOut 5 = .ok (.iaload, 1) := by decide +kernel
theorem dX10_carryOut_6 : decode cX10_carryOut 6 = .ok (.tableswitch 98 0 2 #[26, 64, 85], 26) := by decide +kernel
theorem dX10_carryOut_32 : decode cX10_carryOut 32 = .ok (.aload_n 0, 1) := by decide +kernel
theorem dX10_carryOut_33 : decode cX10_carryOut 33 = .ok (.aload_n 0, 1) := by decide +kernel
theorem dX10_carryOut_34 : decode cX10_carryOut 34 = .ok (.getfield 23, 3) := by decide +kernel
theorem dX10_carryOut_37 : decode cX10_carryOut 37 = .ok (.iload_n 1, 1) := by decide +kernel
theorem dX10_carryOut_38 : decode cX10_carryOut 38 = .ok (.iconst 1, 1) := by decide +kernel
theorem dX10_carryOut_39 : decode cX10_carryOut 39 = .ok (.iadd, 1) := by decide +kernel
theorem dX10_carryOut_40 : decode cX10_carryOut 40 = .ok (.iaload, 1) := by decide +kernel
theorem dX10_carryOut_41 : decode cX10_carryOut 41 = .ok (.aload_n 0, 1) := by decide +kernel
theorem dX10_carryOut_42 : decode cX10_carryOut 42 = .ok (.getfield 23, 3) := by decide +kernel
theorem dX10_carryOut_45 : decode cX10_carryOut 45 = .ok (.iload_n 1, 1) := by decide +kernel
theorem dX10_carryOut_46 : decode cX10_carryOut 46 = .ok (.iconst 2, 1) := by decide +kernel
theorem dX10_carryOut_47 : decode cX10_carryOut 47 = .ok (.iadd, 1) := by decide +kernel
theorem dX10_carryOut_48 : decode cX10_carryOut 48 = .ok (.iaload, 1) := by decide +kernel
theorem dX10_carryOut_49 : decode cX10_carryOut 49 = .ok (.aload_n 0, 1) := by decide +kernel
theorem dX10_carryOut_50 : decode cX10_carryOut 50 = .ok (.getfield 23, 3) := by decide +kernel
theorem dX10_carryOut_53 : decode cX10_carryOut 53 = .ok (.iload_n 1, 1) := by decide +kernel
theorem dX10_carryOut_54 : decode cX10_carryOut 54 = .ok (.iconst 3, 1) := by decide +kernel
theorem dX10_carryOut_55 : decode cX10_carryOut 55 = .ok (.iadd, 1) := by decide +kernel
theorem dX10_carryOut_56 : decode cX10_carryOut 56 = .ok (.iaload, 1) := by decide +kernel
theorem dX10_carryOut_57 : decode cX10_carryOut 57 = .ok (.iconst 1, 1) := by decide +kernel
theorem dX10_carryOut_58 : decode cX10_carryOut 58 = .ok (.if_icmp .ne 7, 3) := by decide +kernel
theorem dX10_carryOut_61 : decode cX10_carryOut 61 = .ok (.iconst 1, 1) := by decide +kernel
theorem dX10_carryOut_62 : decode cX10_carryOut 62 = .ok (.goto 4, 3) := by decide +kernel
theorem dX10_carryOut_65 : decode cX10_carryOut 65 = .ok (.iconst 0, 1) := by decide +kernel
theorem dX10_carryOut_66 : decode cX10_carryOut 66 = .ok (.invokevirtual 76, 3) := by decide +kernel
theorem dX10_carryOut_69 : decode cX10_carryOut 69 = .ok (.ireturn, 1) := by decide +kernel
theorem dX10_carryOut_70 : decode cX10_carryOut 70 = .ok (.aload_n 0, 1) := by decide +kernel
theorem dX10_carryOut_71 : decode cX10_carryOut 71 = .ok (.aload_n 0, 1) := by decide +kernel
theorem dX10_carryOut_72 : decode cX10_carryOut 72 = .ok (.getfield 23, 3) := by decide +kernel
theorem dX10_carryOut_75 : decode cX10_carryOut 75 = .ok (.iload_n 1, 1) := by decide +kernel
theorem dX10_carryOut_76 : decode cX10_carryOut 76 = .ok (.iconst 1, 1) := by decide +kernel
theorem dX10_carryOut_77 : decode cX10_carryOut 77 = .ok (.iadd, 1) := by decide +kernel
theorem dX10_carryOut_78 : decode cX10_carryOut 78 = .ok (.iaload, 1) := by decide +kernel
theorem dX10_carryOut_79 : decode cX10_carryOut 79 = .ok (.aload_n 0, 1) := by decide +kernel
theorem dX10_carryOut_80 : decode cX10_carryOut 80 = .ok (.getfield 23, 3) := by decide +kernel
theorem dX10_carryOut_83 : decode cX10_carryOut 83 = .ok (.iload_n 1, 1) := by decide +kernel
theorem dX10_carryOut_84 : decode cX10_carryOut 84 = .ok (.iconst 2, 1) := by decide +kernel
theorem dX10_carryOut_85 : decode cX10_carryOut 85 = .ok (.iadd, 1) := by decide +kernel
theorem dX10_carryOut_86 : decode cX10_carryOut 86 = .ok (.iaload, 1) := by decide +kernel
theorem dX10_carryOut_87 : decode cX10_carryOut 87 = .ok (.invokevirtual 86, 3) := by decide +kernel
theorem dX10_carryOut_90 : decode cX10_carryOut 90 = .ok (.ireturn, 1) := by decide +kernel
theorem dX10_carryOut_91 : decode cX10_carryOut 91 = .ok (.aload_n 0, 1) := by decide +kernel
theorem dX10_carryOut_92 : decode cX10_carryOut 92 = .ok (.aload_n 0, 1) := by decide +kernel
theorem dX10_carryOut_93 : decode cX10_carryOut 93 = .ok (.getfield 23, 3) := by decide +kernel
theorem dX10_carryOut_96 : decode cX10_carryOut 96 = .ok (.iload_n 1, 1) := by decide +kernel
theorem dX10_carryOut_97 : decode cX10_carryOut 97 = .ok (.iconst 1, 1) := by decide +kernel
theorem dX10_carryOut_98 : decode cX10_carryOut 98 = .ok (.iadd, 1) := by decide +kernel
theorem dX10_carryOut_99 : decode cX10_carryOut 99 = .ok (.iaload, 1) := by decide +kernel
theorem dX10_carryOut_100 : decode cX10_carryOut 100 = .ok (.invokevirtual 144, 3) := by decide +kernel
theorem dX10_carryOut_103 : decode cX10_carryOut 103 = .ok (.ireturn, 1) := by decide +kernel
theorem dX10_carryOut_104 : decode cX10_carryOut 104 = .ok (.aload_n 0, 1) := by decide +kernel
theorem dX10_carryOut_105 : decode cX10_carryOut 105 = .ok (.aload_n 0, 1) := by decide +kernel
theorem dX10_carryOut_106 : decode cX10_carryOut 106 = .ok (.getfield 23, 3) := by decide +kernel
theorem dX10_carryOut_109 : decode cX10_carryOut 109 = .ok (.iload_n 1, 1) := by decide +kernel
theorem dX10_carryOut_110 : decode cX10_carryOut 110 = .ok (.iconst 1, 1) := by decide +kernel
theorem dX10_carryOut_111 : decode cX10_carryOut 111 = .ok (.iadd, 1) := by decide +kernel
theorem dX10_carryOut_112 : decode cX10_carryOut 112 = .ok (.iaload, 1) := by decide +kernel
theorem dX10_carryOut_113 : decode cX10_carryOut 113 = .ok (.invokevirtual 147, 3) := by decide +kernel
theorem dX10_carryOut_116 : decode cX10_carryOut 116 = .ok (.ireturn, 1) := by decide +kernel
theorem dX10_isError_0 : decode cX10_isError 0 = .ok (.iload_n 0, 1) := by decide +kernel
theorem dX10_isError_1 : decode cX10_isError 1 = .ok (.ifCond .ge 13, 3) := by decide +kernel
theorem dX10_isError_4 : decode cX10_isError 4 = .ok (.iload_n 0, 1) := by decide +kernel
theorem dX10_isError_5 : decode cX10_isError 5 = .ok (.bipush (-5), 2) := by decide +kernel
theorem dX10_isError_7 : decode cX10_isError 7 = .ok (.if_icmp .eq 7, 3) := by decide +kernel
theorem dX10_isError_10 : decode cX10_isError 10 = .ok (.iconst 1, 1) := by decide +kernel
theorem dX10_isError_11 : decode cX10_isError 11 = .ok (.goto 4, 3) := by decide +kernel
theorem dX10_isError_14 : decode cX10_isError 14 = .ok (.iconst 0, 1) := by decide +kernel
theorem dX10_isError_15 : decode cX10_isError 15 = .ok (.ireturn, 1) := by decide +kernel
set_option maxRecDepth 20000 in
theorem ggX10_run_X10_readOrder : GoodIn wsX10_run wsX10_readOrder := goodIn_r _ [9, 3, 10, 11, 2, 12, 13, 14, 8, 15, 1, 16, 17, 18, 19, 4, 20, 21, 22, 23, 24, 25, 26, 27, 28, 174, 175, 176, 177, 178, 179, 180, 181, 182, 183] (by decide +kernel) (by decide +kernel)
set_option maxRecDepth 20000 in
theorem gX10_run_X10_readOrder : GoodIn wsX10_run (wsV RX10 177 RX10 yX10_readOrder wsX10_readOrder) := goodIn_app (goodIn_of _ (by decide +kernel)) ggX10_run_X10_readOrder
set_option maxRecDepth 20000 in
theorem ggX10_run_X10_begin : GoodIn wsX10_run wsX10_begin := goodIn_r _ [32, 33, 10, 174, 175, 176, 177, 178, 179, 180, 181, 182, 183] (by decide +kernel) (by decide +kernel)
set_option maxRecDepth 20000 in
theorem gX10_run_X10_begin : GoodIn wsX10_run (wsV RX10 38 RX10 yX10_begin wsX10_begin) := goodIn_app (goodIn_of _ (by decide +kernel)) ggX10_run_X10_begin
set_option maxRecDepth 20000 in
theorem ggX10_run_X10_carryOut : GoodIn wsX10_run wsX10_carryOut := goodIn_r _ [37, 11, 38, 39, 40, 8, 41, 10, 42, 43, 44, 45, 46, 47, 48, 49, 50, 51, 52, 53, 54, 55, 56, 57, 58, 59, 60, 61, 62, 63, 64, 65, 66, 67, 68, 69, 70, 71, 72, 73, 74, 75, 76, 77, 78, 79, 80, 81, 82, 83, 84, 85, 86, 87, 88, 89, 90, 91, 92, 93, 94, 95, 96, 97, 98, 99, 100, 101, 102, 103, 104, 105, 106, 107, 108, 109, 110, 111, 112, 113, 114, 115, 116, 117, 118, 119, 120, 121, 122, 123, 124, 125, 126, 127, 128, 129, 130, 131, 132, 133, 134, 135, 136, 137, 138, 139, 140, 141, 142, 143, 144, 145, 146, 147, 148, 149, 150, 151, 152, 153, 154, 155, 156, 157, 158, 159, 160, 161, 162, 163, 164, 174, 175, 176, 177, 178, 179, 180, 181, 182, 183] (by decide +kernel) (by decide +kernel)
set_option maxRecDepth 20000 in
theorem gX10_run_X10_carryOut : GoodIn wsX10_run (wsV RX10 180 RX10 yX10_carryOut wsX10_carryOut) := goodIn_app (goodIn_of _ (by decide +kernel)) ggX10_run_X10_carryOut
set_option maxRecDepth 20000 in
theorem ggX10_run_X10_isError : GoodIn wsX10_run wsX10_isError := goodIn_r _ [167] (by decide +kernel) (by decide +kernel)
set_option maxRecDepth 20000 in
theorem gX10_run_X10_isError : GoodIn wsX10_run (va_wsS RX10 183 yX10_isError wsX10_isError) := goodIn_app (goodIn_of _ (by decide +kernel)) ggX10_run_X10_isError
set_option maxRecDepth 20000 in
theorem ggX10_run_X10_recorded : GoodIn wsX10_run wsX10_recorded := goodIn_r _ [171, 172, 173, 33, 174, 175, 176, 177, 178, 179, 180, 181, 182, 183] (by decide +kernel) (by decide +kernel)
set_option maxRecDepth 20000 in
theorem gX10_run_X10_recorded : GoodIn wsX10_run (wsV RX10 30 RX10 yX10_recorded wsX10_recorded) := goodIn_app (goodIn_of _ (by decide +kernel)) ggX10_run_X10_recorded
theorem dX10_run_0 : decode cX10_run 0 = .ok (.aload_n 0, 1) := by decide +kernel
theorem dX10_run_1 : decode cX10_run 1 = .ok (.iconst 0, 1) := by decide +kernel
theorem dX10_run_2 : decode cX10_run 2 = .ok (.putfield 153, 3) := by decide +kernel
theorem dX10_run_5 : decode cX10_run 5 = .ok (.aload_n 0, 1) := by decide +kernel
theorem dX10_run_6 : decode cX10_run 6 = .ok (.iconst 1, 1) := by decide +kernel
theorem dX10_run_7 : decode cX10_run 7 = .ok (.putfield 156, 3) := by decide +kernel
theorem dX10_run_10 : decode cX10_run 10 = .ok (.aload_n 0, 1) := by decide +kernel
theorem dX10_run_11 : decode cX10_run 11 = .ok (.iconst 0, 1) := by decide +kernel
theorem dX10_run_12 : decode cX10_run 12 = .ok (.putfield 167, 3) := by decide +kernel
theorem dX10_run_15 : decode cX10_run 15 = .ok (.aload_n 0, 1) := by decide +kernel
theorem dX10_run_16 : decode cX10_run 16 = .ok (.invokevirtual 177, 3) := by decide +kernel
theorem dX10_run_19 : decode cX10_run 19 = .ok (.aload_n 0, 1) := by decide +kernel
theorem dX10_run_20 : decode cX10_run 20 = .ok (.getfield 156, 3) := by decide +kernel
theorem dX10_run_23 : decode cX10_run 23 = .ok (.ifCond .eq 21, 3) := by decide +kernel
theorem dX10_run_26 : decode cX10_run 26 = .ok (.aload_n 0, 1) := by decide +kernel
theorem dX10_run_27 : decode cX10_run 27 = .ok (.getfield 153, 3) := by decide +kernel
theorem dX10_run_30 : decode cX10_run 30 = .ok (.aload_n 0, 1) := by decide +kernel
theorem dX10_run_31 : decode cX10_run 31 = .ok (.getfield 150, 3) := by decide +kernel
theorem dX10_run_34 : decode cX10_run 34 = .ok (.if_icmp .ge 10, 3) := by decide +kernel
theorem dX10_run_37 : decode cX10_run 37 = .ok (.aload_n 0, 1) := by decide +kernel
theorem dX10_run_38 : decode cX10_run 38 = .ok (.invokevirtual 177, 3) := by decide +kernel
theorem dX10_run_41 : decode cX10_run 41 = .ok (.goto (-22), 3) := by decide +kernel
theorem dX10_run_44 : decode cX10_run 44 = .ok (.aload_n 0, 1) := by decide +kernel
theorem dX10_run_45 : decode cX10_run 45 = .ok (.getfield 156, 3) := by decide +kernel
theorem dX10_run_48 : decode cX10_run 48 = .ok (.ifCond .ne 11, 3) := by decide +kernel
theorem dX10_run_51 : decode cX10_run 51 = .ok (.bipush (-100), 2) := by decide +kernel
theorem dX10_run_53 : decode cX10_run 53 = .ok (.aload_n 0, 1) := by decide +kernel
theorem dX10_run_54 : decode cX10_run 54 = .ok (.getfield 153, 3) := by decide +kernel
theorem dX10_run_57 : decode cX10_run 57 = .ok (.isub, 1) := by decide +kernel
theorem dX10_run_58 : decode cX10_run 58 = .ok (.ireturn, 1) := by decide +kernel
theorem dX10_run_59 : decode cX10_run 59 = .ok (.aload_n 0, 1) := by decide +kernel
theorem dX10_run_60 : decode cX10_run 60 = .ok (.invokevirtual 38, 3) := by decide +kernel
theorem dX10_run_63 : decode cX10_run 63 = .ok (.iconst 0, 1) := by decide +kernel
theorem dX10_run_64 : decode cX10_run 64 = .ok (.istore_n 1, 1) := by decide +kernel
theorem dX10_run_65 : decode cX10_run 65 = .ok (.iload_n 1, 1) := by decide +kernel
theorem dX10_run_66 : decode cX10_run 66 = .ok (.aload_n 0, 1) := by decide +kernel
theorem dX10_run_67 : decode cX10_run 67 = .ok (.getfield 167, 3) := by decide +kernel
theorem dX10_run_70 : decode cX10_run 70 = .ok (.if_icmp .ge 22, 3) := by decide +kernel
theorem dX10_run_73 : decode cX10_run 73 = .ok (.aload_n 0, 1) := by decide +kernel
theorem dX10_run_74 : decode cX10_run 74 = .ok (.iconst 4, 1) := by decide +kernel
theorem dX10_run_75 : decode cX10_run 75 = .ok (.iload_n 1, 1) := by decide +kernel
theorem dX10_run_76 : decode cX10_run 76 = .ok (.imul, 1) := by decide +kernel
theorem dX10_run_77 : decode cX10_run 77 = .ok (.invokevirtual 180, 3) := by decide +kernel
theorem dX10_run_80 : decode cX10_run 80 = .ok (.invokestatic 183, 3) := by decide +kernel
theorem dX10_run_83 : decode cX10_run 83 = .ok (.ifCond .ne 9, 3) := by decide +kernel
theorem dX10_run_86 : decode cX10_run 86 = .ok (.iinc 1 1, 3) := by decide +kernel
theorem dX10_run_89 : decode cX10_run 89 = .ok (.goto (-24), 3) := by decide +kernel
theorem dX10_run_92 : decode cX10_run 92 = .ok (.aload_n 0, 1) := by decide +kernel
theorem dX10_run_93 : decode cX10_run 93 = .ok (.iload_n 1, 1) := by decide +kernel
theorem dX10_run_94 : decode cX10_run 94 = .ok (.invokevirtual 30, 3) := by decide +kernel
theorem dX10_run_97 : decode cX10_run 97 = .ok (.ireturn, 1) := by decide +kernel
set_option maxRecDepth 20000 in
theorem ggX10_gate_X10_noGate : GoodIn wsX10_gate wsX10_noGate := goodIn_r _ [5, 6, 7, 8, 4, 9, 26, 27, 28, 29, 30, 31, 32, 33, 34, 35] (by decide +kernel) (by decide +kernel)
set_option maxRecDepth 20000 in
theorem gX10_gate_X10_noGate : GoodIn wsX10_gate (wsV RX10 48 RX10 yX10_noGate wsX10_noGate) := goodIn_app (goodIn_of _ (by decide +kernel)) ggX10_gate_X10_noGate
set_option maxRecDepth 20000 in
theorem ggX10_gate_X10_gateOf : GoodIn wsX10_gate wsX10_gateOf := goodIn_r _ [13, 6, 26, 27, 28, 29, 30, 31, 32, 33, 34, 35] (by decide +kernel) (by decide +kernel)
set_option maxRecDepth 20000 in
theorem gX10_gate_X10_gateOf : GoodIn wsX10_gate (wsV RX10 52 RX10 yX10_gateOf wsX10_gateOf) := goodIn_app (goodIn_of _ (by decide +kernel)) ggX10_gate_X10_gateOf
set_option maxRecDepth 20000 in
theorem ggX10_gate_X10_queueLength : GoodIn wsX10_gate wsX10_queueLength := goodIn_r _ [17, 6, 18, 19, 20, 4, 21, 22, 23, 24, 25, 26, 27, 28, 29, 30, 31, 32, 33, 34, 35] (by decide +kernel) (by decide +kernel)
set_option maxRecDepth 20000 in
theorem gX10_gate_X10_queueLength : GoodIn wsX10_gate (wsV RX10 83 RX10 yX10_queueLength wsX10_queueLength) := goodIn_app (goodIn_of _ (by decide +kernel)) ggX10_gate_X10_queueLength
theorem dX10_gate_0 : decode cX10_gate 0 = .ok (.aload_n 0, 1) := by decide +kernel
theorem dX10_gate_1 : decode cX10_gate 1 = .ok (.iload_n 1, 1) := by decide +kernel
theorem dX10_gate_2 : decode cX10_gate 2 = .ok (.invokevirtual 48, 3) := by decide +kernel
theorem dX10_gate_5 : decode cX10_gate 5 = .ok (.ifCond .eq 5, 3) := by decide +kernel
theorem dX10_gate_8 : decode cX10_gate 8 = .ok (.iconst (-1), 1) := by decide +kernel
theorem dX10_gate_9 : decode cX10_gate 9 = .ok (.ireturn, 1) := by decide +kernel
theorem dX10_gate_10 : decode cX10_gate 10 = .ok (.iload_n 2, 1) := by decide +kernel
theorem dX10_gate_11 : decode cX10_gate 11 = .ok (.tableswitch 135 0 10 #[57, 64, 71, 78, 86, 86, 95, 103, 111, 119, 127], 57) := by decide +kernel
theorem dX10_gate_68 : decode cX10_gate 68 = .ok (.aload_n 0, 1) := by decide +kernel
theorem dX10_gate_69 : decode cX10_gate 69 = .ok (.iload_n 1, 1) := by decide +kernel
theorem dX10_gate_70 : decode cX10_gate 70 = .ok (.iconst 0, 1) := by decide +kernel
theorem dX10_gate_71 : decode cX10_gate 71 = .ok (.invokevirtual 52, 3) := by decide +kernel
theorem dX10_gate_74 : decode cX10_gate 74 = .ok (.ireturn, 1) := by decide +kernel
theorem dX10_gate_75 : decode cX10_gate 75 = .ok (.aload_n 0, 1) := by decide +kernel
theorem dX10_gate_76 : decode cX10_gate 76 = .ok (.iload_n 1, 1) := by decide +kernel
theorem dX10_gate_77 : decode cX10_gate 77 = .ok (.iconst 4, 1) := by decide +kernel
theorem dX10_gate_78 : decode cX10_gate 78 = .ok (.invokevirtual 52, 3) := by decide +kernel
theorem dX10_gate_81 : decode cX10_gate 81 = .ok (.ireturn, 1) := by decide +kernel
theorem dX10_gate_82 : decode cX10_gate 82 = .ok (.aload_n 0, 1) := by decide +kernel
theorem dX10_gate_83 : decode cX10_gate 83 = .ok (.iload_n 1, 1) := by decide +kernel
theorem dX10_gate_84 : decode cX10_gate 84 = .ok (.iconst 5, 1) := by decide +kernel
theorem dX10_gate_85 : decode cX10_gate 85 = .ok (.invokevirtual 52, 3) := by decide +kernel
theorem dX10_gate_88 : decode cX10_gate 88 = .ok (.ireturn, 1) := by decide +kernel
theorem dX10_gate_89 : decode cX10_gate 89 = .ok (.aload_n 0, 1) := by decide +kernel
theorem dX10_gate_90 : decode cX10_gate 90 = .ok (.iload_n 1, 1) := by decide +kernel
theorem dX10_gate_91 : decode cX10_gate 91 = .ok (.bipush 6, 2) := by decide +kernel
theorem dX10_gate_93 : decode cX10_gate 93 = .ok (.invokevirtual 52, 3) := by decide +kernel
theorem dX10_gate_96 : decode cX10_gate 96 = .ok (.ireturn, 1) := by decide +kernel
theorem dX10_gate_97 : decode cX10_gate 97 = .ok (.aload_n 0, 1) := by decide +kernel
theorem dX10_gate_98 : decode cX10_gate 98 = .ok (.iload_n 1, 1) := by decide +kernel
theorem dX10_gate_99 : decode cX10_gate 99 = .ok (.iload_n 2, 1) := by decide +kernel
theorem dX10_gate_100 : decode cX10_gate 100 = .ok (.iconst 4, 1) := by decide +kernel
theorem dX10_gate_101 : decode cX10_gate 101 = .ok (.isub, 1) := by decide +kernel
theorem dX10_gate_102 : decode cX10_gate 102 = .ok (.invokevirtual 83, 3) := by decide +kernel
theorem dX10_gate_105 : decode cX10_gate 105 = .ok (.ireturn, 1) := by decide +kernel
theorem dX10_gate_106 : decode cX10_gate 106 = .ok (.aload_n 0, 1) := by decide +kernel
theorem dX10_gate_107 : decode cX10_gate 107 = .ok (.iload_n 1, 1) := by decide +kernel
theorem dX10_gate_108 : decode cX10_gate 108 = .ok (.bipush 10, 2) := by decide +kernel
theorem dX10_gate_110 : decode cX10_gate 110 = .ok (.invokevirtual 52, 3) := by decide +kernel
theorem dX10_gate_113 : decode cX10_gate 113 = .ok (.ireturn, 1) := by decide +kernel
theorem dX10_gate_114 : decode cX10_gate 114 = .ok (.aload_n 0, 1) := by decide +kernel
theorem dX10_gate_115 : decode cX10_gate 115 = .ok (.iload_n 1, 1) := by decide +kernel
theorem dX10_gate_116 : decode cX10_gate 116 = .ok (.bipush 11, 2) := by decide +kernel
theorem dX10_gate_118 : decode cX10_gate 118 = .ok (.invokevirtual 52, 3) := by decide +kernel
theorem dX10_gate_121 : decode cX10_gate 121 = .ok (.ireturn, 1) := by decide +kernel
theorem dX10_gate_122 : decode cX10_gate 122 = .ok (.aload_n 0, 1) := by decide +kernel
theorem dX10_gate_123 : decode cX10_gate 123 = .ok (.iload_n 1, 1) := by decide +kernel
theorem dX10_gate_124 : decode cX10_gate 124 = .ok (.bipush 12, 2) := by decide +kernel
theorem dX10_gate_126 : decode cX10_gate 126 = .ok (.invokevirtual 52, 3) := by decide +kernel
theorem dX10_gate_129 : decode cX10_gate 129 = .ok (.ireturn, 1) := by decide +kernel
theorem dX10_gate_130 : decode cX10_gate 130 = .ok (.aload_n 0, 1) := by decide +kernel
theorem dX10_gate_131 : decode cX10_gate 131 = .ok (.iload_n 1, 1) := by decide +kernel
theorem dX10_gate_132 : decode cX10_gate 132 = .ok (.bipush 13, 2) := by decide +kernel
theorem dX10_gate_134 : decode cX10_gate 134 = .ok (.invokevirtual 52, 3) := by decide +kernel
theorem dX10_gate_137 : decode cX10_gate 137 = .ok (.ireturn, 1) := by decide +kernel
theorem dX10_gate_138 : decode cX10_gate 138 = .ok (.aload_n 0, 1) := by decide +kernel
theorem dX10_gate_139 : decode cX10_gate 139 = .ok (.iload_n 1, 1) := by decide +kernel
theorem dX10_gate_140 : decode cX10_gate 140 = .ok (.bipush 9, 2) := by decide +kernel
theorem dX10_gate_142 : decode cX10_gate 142 = .ok (.invokevirtual 52, 3) := by decide +kernel
theorem dX10_gate_145 : decode cX10_gate 145 = .ok (.ireturn, 1) := by decide +kernel
theorem dX10_gate_146 : decode cX10_gate 146 = .ok (.bipush (-2), 2) := by decide +kernel
theorem dX10_gate_148 : decode cX10_gate 148 = .ok (.ireturn, 1) := by decide +kernel
set_option maxRecDepth 20000 in
theorem ggX10_queued_X10_noGate : GoodIn wsX10_queued wsX10_noGate := goodIn_r _ [5, 6, 7, 8, 4, 9, 22, 23, 24, 25, 26, 27, 28, 29, 30, 31] (by decide +kernel) (by decide +kernel)
set_option maxRecDepth 20000 in
theorem gX10_queued_X10_noGate : GoodIn wsX10_queued (wsV RX10 48 RX10 yX10_noGate wsX10_noGate) := goodIn_app (goodIn_of _ (by decide +kernel)) ggX10_queued_X10_noGate
set_option maxRecDepth 20000 in
theorem ggX10_queued_X10_in : GoodIn wsX10_queued wsX10_in := goodIn_r _ [9] (by decide +kernel) (by decide +kernel)
set_option maxRecDepth 20000 in
theorem gX10_queued_X10_in : GoodIn wsX10_queued (va_wsS RX10 34 yX10_in wsX10_in) := goodIn_app (goodIn_of _ (by decide +kernel)) ggX10_queued_X10_in
set_option maxRecDepth 20000 in
theorem ggX10_queued_X10_queuedAt : GoodIn wsX10_queued wsX10_queuedAt := goodIn_r _ [13, 6, 14, 15, 16, 4, 17, 18, 19, 20, 21, 22, 23, 24, 25, 26, 27, 28, 29, 30, 31] (by decide +kernel) (by decide +kernel)
set_option maxRecDepth 20000 in
theorem gX10_queued_X10_queuedAt : GoodIn wsX10_queued (wsV RX10 89 RX10 yX10_queuedAt wsX10_queuedAt) := goodIn_app (goodIn_of _ (by decide +kernel)) ggX10_queued_X10_queuedAt
theorem dX10_queued_0 : decode cX10_queued 0 = .ok (.aload_n 0, 1) := by decide +kernel
theorem dX10_queued_1 : decode cX10_queued 1 = .ok (.iload_n 1, 1) := by decide +kernel
theorem dX10_queued_2 : decode cX10_queued 2 = .ok (.invokevirtual 48, 3) := by decide +kernel
theorem dX10_queued_5 : decode cX10_queued 5 = .ok (.ifCond .eq 5, 3) := by decide +kernel
theorem dX10_queued_8 : decode cX10_queued 8 = .ok (.iconst (-1), 1) := by decide +kernel
theorem dX10_queued_9 : decode cX10_queued 9 = .ok (.ireturn, 1) := by decide +kernel
theorem dX10_queued_10 : decode cX10_queued 10 = .ok (.iload_n 2, 1) := by decide +kernel
theorem dX10_queued_11 : decode cX10_queued 11 = .ok (.iconst 0, 1) := by decide +kernel
theorem dX10_queued_12 : decode cX10_queued 12 = .ok (.iconst 1, 1) := by decide +kernel
theorem dX10_queued_13 : decode cX10_queued 13 = .ok (.invokestatic 34, 3) := by decide +kernel
theorem dX10_queued_16 : decode cX10_queued 16 = .ok (.ifCond .eq 17, 3) := by decide +kernel
theorem dX10_queued_19 : decode cX10_queued 19 = .ok (.iload_n 3, 1) := by decide +kernel
theorem dX10_queued_20 : decode cX10_queued 20 = .ok (.ifCond .lt 13, 3) := by decide +kernel
theorem dX10_queued_23 : decode cX10_queued 23 = .ok (.aload_n 0, 1) := by decide +kernel
theorem dX10_queued_24 : decode cX10_queued 24 = .ok (.iload_n 1, 1) := by decide +kernel
theorem dX10_queued_25 : decode cX10_queued 25 = .ok (.iload_n 2, 1) := by decide +kernel
theorem dX10_queued_26 : decode cX10_queued 26 = .ok (.iload_n 3, 1) := by decide +kernel
theorem dX10_queued_27 : decode cX10_queued 27 = .ok (.invokevirtual 89, 3) := by decide +kernel
theorem dX10_queued_30 : decode cX10_queued 30 = .ok (.goto 5, 3) := by decide +kernel
theorem dX10_queued_33 : decode cX10_queued 33 = .ok (.bipush (-2), 2) := by decide +kernel
theorem dX10_queued_35 : decode cX10_queued 35 = .ok (.ireturn, 1) := by decide +kernel
set_option maxRecDepth 20000 in
theorem ggX10_person_X10_noPerson : GoodIn wsX10_person wsX10_noPerson := goodIn_r _ [5, 6, 7, 8, 4, 9, 18, 19, 20, 21, 22, 23, 24, 25, 26, 27] (by decide +kernel) (by decide +kernel)
set_option maxRecDepth 20000 in
theorem gX10_person_X10_noPerson : GoodIn wsX10_person (wsV RX10 80 RX10 yX10_noPerson wsX10_noPerson) := goodIn_app (goodIn_of _ (by decide +kernel)) ggX10_person_X10_noPerson
set_option maxRecDepth 20000 in
theorem ggX10_person_X10_of : GoodIn wsX10_person wsX10_of := goodIn_r _ [13, 6, 18, 19, 20, 21, 22, 23, 24, 25, 26, 27] (by decide +kernel) (by decide +kernel)
set_option maxRecDepth 20000 in
theorem gX10_person_X10_of : GoodIn wsX10_person (wsV RX10 64 RX10 yX10_of wsX10_of) := goodIn_app (goodIn_of _ (by decide +kernel)) ggX10_person_X10_of
set_option maxRecDepth 20000 in
theorem ggX10_person_X10_waited : GoodIn wsX10_person wsX10_waited := goodIn_r _ [17, 6, 10, 11, 12, 4, 13, 18, 19, 20, 21, 22, 23, 24, 25, 26, 27] (by decide +kernel) (by decide +kernel)
set_option maxRecDepth 20000 in
theorem gX10_person_X10_waited : GoodIn wsX10_person (wsV RX10 110 RX10 yX10_waited wsX10_waited) := goodIn_app (goodIn_of _ (by decide +kernel)) ggX10_person_X10_waited
theorem dX10_person_0 : decode cX10_person 0 = .ok (.aload_n 0, 1) := by decide +kernel
theorem dX10_person_1 : decode cX10_person 1 = .ok (.iload_n 1, 1) := by decide +kernel
theorem dX10_person_2 : decode cX10_person 2 = .ok (.invokevirtual 80, 3) := by decide +kernel
theorem dX10_person_5 : decode cX10_person 5 = .ok (.ifCond .eq 5, 3) := by decide +kernel
theorem dX10_person_8 : decode cX10_person 8 = .ok (.iconst (-1), 1) := by decide +kernel
theorem dX10_person_9 : decode cX10_person 9 = .ok (.ireturn, 1) := by decide +kernel
theorem dX10_person_10 : decode cX10_person 10 = .ok (.aload_n 0, 1) := by decide +kernel
theorem dX10_person_11 : decode cX10_person 11 = .ok (.iload_n 1, 1) := by decide +kernel
theorem dX10_person_12 : decode cX10_person 12 = .ok (.iconst 0, 1) := by decide +kernel
theorem dX10_person_13 : decode cX10_person 13 = .ok (.invokevirtual 64, 3) := by decide +kernel
theorem dX10_person_16 : decode cX10_person 16 = .ok (.istore_n 3, 1) := by decide +kernel
theorem dX10_person_17 : decode cX10_person 17 = .ok (.iload_n 2, 1) := by decide +kernel
theorem dX10_person_18 : decode cX10_person 18 = .ok (.tableswitch 88 0 5 #[38, 40, 47, 54, 61, 68], 38) := by decide +kernel
theorem dX10_person_56 : decode cX10_person 56 = .ok (.iload_n 3, 1) := by decide +kernel
theorem dX10_person_57 : decode cX10_person 57 = .ok (.ireturn, 1) := by decide +kernel
theorem dX10_person_58 : decode cX10_person 58 = .ok (.aload_n 0, 1) := by decide +kernel
theorem dX10_person_59 : decode cX10_person 59 = .ok (.iload_n 1, 1) := by decide +kernel
theorem dX10_person_60 : decode cX10_person 60 = .ok (.iconst 1, 1) := by decide +kernel
theorem dX10_person_61 : decode cX10_person 61 = .ok (.invokevirtual 64, 3) := by decide +kernel
theorem dX10_person_64 : decode cX10_person 64 = .ok (.ireturn, 1) := by decide +kernel
theorem dX10_person_65 : decode cX10_person 65 = .ok (.aload_n 0, 1) := by decide +kernel
theorem dX10_person_66 : decode cX10_person 66 = .ok (.iload_n 1, 1) := by decide +kernel
theorem dX10_person_67 : decode cX10_person 67 = .ok (.iconst 2, 1) := by decide +kernel
theorem dX10_person_68 : decode cX10_person 68 = .ok (.invokevirtual 64, 3) := by decide +kernel
theorem dX10_person_71 : decode cX10_person 71 = .ok (.ireturn, 1) := by decide +kernel
theorem dX10_person_72 : decode cX10_person 72 = .ok (.aload_n 0, 1) := by decide +kernel
theorem dX10_person_73 : decode cX10_person 73 = .ok (.iload_n 1, 1) := by decide +kernel
theorem dX10_person_74 : decode cX10_person 74 = .ok (.iconst 3, 1) := by decide +kernel
theorem dX10_person_75 : decode cX10_person 75 = .ok (.invokevirtual 64, 3) := by decide +kernel
theorem dX10_person_78 : decode cX10_person 78 = .ok (.ireturn, 1) := by decide +kernel
theorem dX10_person_79 : decode cX10_person 79 = .ok (.aload_n 0, 1) := by decide +kernel
theorem dX10_person_80 : decode cX10_person 80 = .ok (.iload_n 1, 1) := by decide +kernel
theorem dX10_person_81 : decode cX10_person 81 = .ok (.iconst 4, 1) := by decide +kernel
theorem dX10_person_82 : decode cX10_person 82 = .ok (.invokevirtual 64, 3) := by decide +kernel
theorem dX10_person_85 : decode cX10_person 85 = .ok (.ireturn, 1) := by decide +kernel
theorem dX10_person_86 : decode cX10_person 86 = .ok (.iload_n 3, 1) := by decide +kernel
theorem dX10_person_87 : decode cX10_person 87 = .ok (.iconst 1, 1) := by decide +kernel
theorem dX10_person_88 : decode cX10_person 88 = .ok (.if_icmp .eq 8, 3) := by decide +kernel
theorem dX10_person_91 : decode cX10_person 91 = .ok (.iload_n 3, 1) := by decide +kernel
theorem dX10_person_92 : decode cX10_person 92 = .ok (.iconst 4, 1) := by decide +kernel
theorem dX10_person_93 : decode cX10_person 93 = .ok (.if_icmp .ne 11, 3) := by decide +kernel
theorem dX10_person_96 : decode cX10_person 96 = .ok (.aload_n 0, 1) := by decide +kernel
theorem dX10_person_97 : decode cX10_person 97 = .ok (.iload_n 1, 1) := by decide +kernel
theorem dX10_person_98 : decode cX10_person 98 = .ok (.invokevirtual 110, 3) := by decide +kernel
theorem dX10_person_101 : decode cX10_person 101 = .ok (.goto 4, 3) := by decide +kernel
theorem dX10_person_104 : decode cX10_person 104 = .ok (.iconst 0, 1) := by decide +kernel
theorem dX10_person_105 : decode cX10_person 105 = .ok (.ireturn, 1) := by decide +kernel
theorem dX10_person_106 : decode cX10_person 106 = .ok (.bipush (-2), 2) := by decide +kernel
theorem dX10_person_108 : decode cX10_person 108 = .ok (.ireturn, 1) := by decide +kernel
set_option maxRecDepth 20000 in
theorem ggX10_pool_X10_noPool : GoodIn wsX10_pool wsX10_noPool := goodIn_r _ [6, 1, 7, 8, 5, 9, 22, 23, 24, 25, 26, 27, 28, 29, 30, 31] (by decide +kernel) (by decide +kernel)
set_option maxRecDepth 20000 in
theorem gX10_pool_X10_noPool : GoodIn wsX10_pool (wsV RX10 56 RX10 yX10_noPool wsX10_noPool) := goodIn_app (goodIn_of _ (by decide +kernel)) ggX10_pool_X10_noPool
set_option maxRecDepth 20000 in
theorem ggX10_pool_X10_insideBy : GoodIn wsX10_pool wsX10_insideBy := goodIn_r _ [13, 1, 14, 15, 16, 5, 17, 18, 19, 20, 21, 7, 8, 9, 22, 23, 24, 25, 26, 27, 28, 29, 30, 31] (by decide +kernel) (by decide +kernel)
set_option maxRecDepth 20000 in
theorem gX10_pool_X10_insideBy : GoodIn wsX10_pool (wsV RX10 107 RX10 yX10_insideBy wsX10_insideBy) := goodIn_app (goodIn_of _ (by decide +kernel)) ggX10_pool_X10_insideBy
theorem dX10_pool_0 : decode cX10_pool 0 = .ok (.aload_n 0, 1) := by decide +kernel
theorem dX10_pool_1 : decode cX10_pool 1 = .ok (.iload_n 1, 1) := by decide +kernel
theorem dX10_pool_2 : decode cX10_pool 2 = .ok (.invokevirtual 56, 3) := by decide +kernel
theorem dX10_pool_5 : decode cX10_pool 5 = .ok (.ifCond .eq 5, 3) := by decide +kernel
theorem dX10_pool_8 : decode cX10_pool 8 = .ok (.iconst (-1), 1) := by decide +kernel
theorem dX10_pool_9 : decode cX10_pool 9 = .ok (.ireturn, 1) := by decide +kernel
theorem dX10_pool_10 : decode cX10_pool 10 = .ok (.iconst 0, 1) := by decide +kernel
theorem dX10_pool_11 : decode cX10_pool 11 = .ok (.istore_n 3, 1) := by decide +kernel
theorem dX10_pool_12 : decode cX10_pool 12 = .ok (.iconst 0, 1) := by decide +kernel
theorem dX10_pool_13 : decode cX10_pool 13 = .ok (.istore 4, 2) := by decide +kernel
theorem dX10_pool_15 : decode cX10_pool 15 = .ok (.iload 4, 2) := by decide +kernel
theorem dX10_pool_17 : decode cX10_pool 17 = .ok (.aload_n 0, 1) := by decide +kernel
theorem dX10_pool_18 : decode cX10_pool 18 = .ok (.getfield 7, 3) := by decide +kernel
theorem dX10_pool_21 : decode cX10_pool 21 = .ok (.iconst 3, 1) := by decide +kernel
theorem dX10_pool_22 : decode cX10_pool 22 = .ok (.iaload, 1) := by decide +kernel
theorem dX10_pool_23 : decode cX10_pool 23 = .ok (.if_icmp .ge 34, 3) := by decide +kernel
theorem dX10_pool_26 : decode cX10_pool 26 = .ok (.iload_n 3, 1) := by decide +kernel
theorem dX10_pool_27 : decode cX10_pool 27 = .ok (.aload_n 0, 1) := by decide +kernel
theorem dX10_pool_28 : decode cX10_pool 28 = .ok (.getfield 7, 3) := by decide +kernel
theorem dX10_pool_31 : decode cX10_pool 31 = .ok (.sipush 400, 3) := by decide +kernel
theorem dX10_pool_34 : decode cX10_pool 34 = .ok (.iconst 2, 1) := by decide +kernel
theorem dX10_pool_35 : decode cX10_pool 35 = .ok (.iload 4, 2) := by decide +kernel
theorem dX10_pool_37 : decode cX10_pool 37 = .ok (.imul, 1) := by decide +kernel
theorem dX10_pool_38 : decode cX10_pool 38 = .ok (.iadd, 1) := by decide +kernel
theorem dX10_pool_39 : decode cX10_pool 39 = .ok (.iaload, 1) := by decide +kernel
theorem dX10_pool_40 : decode cX10_pool 40 = .ok (.iload_n 1, 1) := by decide +kernel
theorem dX10_pool_41 : decode cX10_pool 41 = .ok (.if_icmp .ne 7, 3) := by decide +kernel
theorem dX10_pool_44 : decode cX10_pool 44 = .ok (.iconst 1, 1) := by decide +kernel
theorem dX10_pool_45 : decode cX10_pool 45 = .ok (.goto 4, 3) := by decide +kernel
theorem dX10_pool_48 : decode cX10_pool 48 = .ok (.iconst 0, 1) := by decide +kernel
theorem dX10_pool_49 : decode cX10_pool 49 = .ok (.iadd, 1) := by decide +kernel
theorem dX10_pool_50 : decode cX10_pool 50 = .ok (.istore_n 3, 1) := by decide +kernel
theorem dX10_pool_51 : decode cX10_pool 51 = .ok (.iinc 4 1, 3) := by decide +kernel
theorem dX10_pool_54 : decode cX10_pool 54 = .ok (.goto (-39), 3) := by decide +kernel
theorem dX10_pool_57 : decode cX10_pool 57 = .ok (.iload_n 2, 1) := by decide +kernel
theorem dX10_pool_58 : decode cX10_pool 58 = .ok (.tableswitch 72 0 4 #[34, 34, 49, 55, 57], 34) := by decide +kernel
theorem dX10_pool_92 : decode cX10_pool 92 = .ok (.aload_n 0, 1) := by decide +kernel
theorem dX10_pool_93 : decode cX10_pool 93 = .ok (.getfield 7, 3) := by decide +kernel
theorem dX10_pool_96 : decode cX10_pool 96 = .ok (.sipush 424, 3) := by decide +kernel
theorem dX10_pool_99 : decode cX10_pool 99 = .ok (.iconst 3, 1) := by decide +kernel
theorem dX10_pool_100 : decode cX10_pool 100 = .ok (.iload_n 1, 1) := by decide +kernel
theorem dX10_pool_101 : decode cX10_pool 101 = .ok (.imul, 1) := by decide +kernel
theorem dX10_pool_102 : decode cX10_pool 102 = .ok (.iadd, 1) := by decide +kernel
theorem dX10_pool_103 : decode cX10_pool 103 = .ok (.iload_n 2, 1) := by decide +kernel
theorem dX10_pool_104 : decode cX10_pool 104 = .ok (.iadd, 1) := by decide +kernel
theorem dX10_pool_105 : decode cX10_pool 105 = .ok (.iaload, 1) := by decide +kernel
theorem dX10_pool_106 : decode cX10_pool 106 = .ok (.ireturn, 1) := by decide +kernel
theorem dX10_pool_107 : decode cX10_pool 107 = .ok (.aload_n 0, 1) := by decide +kernel
theorem dX10_pool_108 : decode cX10_pool 108 = .ok (.iload_n 1, 1) := by decide +kernel
theorem dX10_pool_109 : decode cX10_pool 109 = .ok (.invokevirtual 107, 3) := by decide +kernel
theorem dX10_pool_112 : decode cX10_pool 112 = .ok (.ireturn, 1) := by decide +kernel
theorem dX10_pool_113 : decode cX10_pool 113 = .ok (.iload_n 3, 1) := by decide +kernel
theorem dX10_pool_114 : decode cX10_pool 114 = .ok (.ireturn, 1) := by decide +kernel
theorem dX10_pool_115 : decode cX10_pool 115 = .ok (.aload_n 0, 1) := by decide +kernel
theorem dX10_pool_116 : decode cX10_pool 116 = .ok (.getfield 7, 3) := by decide +kernel
theorem dX10_pool_119 : decode cX10_pool 119 = .ok (.sipush 424, 3) := by decide +kernel
theorem dX10_pool_122 : decode cX10_pool 122 = .ok (.iconst 3, 1) := by decide +kernel
theorem dX10_pool_123 : decode cX10_pool 123 = .ok (.iload_n 1, 1) := by decide +kernel
theorem dX10_pool_124 : decode cX10_pool 124 = .ok (.imul, 1) := by decide +kernel
theorem dX10_pool_125 : decode cX10_pool 125 = .ok (.iadd, 1) := by decide +kernel
theorem dX10_pool_126 : decode cX10_pool 126 = .ok (.iconst 2, 1) := by decide +kernel
theorem dX10_pool_127 : decode cX10_pool 127 = .ok (.iadd, 1) := by decide +kernel
theorem dX10_pool_128 : decode cX10_pool 128 = .ok (.iaload, 1) := by decide +kernel
theorem dX10_pool_129 : decode cX10_pool 129 = .ok (.ireturn, 1) := by decide +kernel
theorem dX10_pool_130 : decode cX10_pool 130 = .ok (.bipush (-2), 2) := by decide +kernel
theorem dX10_pool_132 : decode cX10_pool 132 = .ok (.ireturn, 1) := by decide +kernel
set_option maxRecDepth 20000 in
theorem ggX10_passOf_X10_noPass : GoodIn wsX10_passOf wsX10_noPass := goodIn_r _ [6, 1, 7, 8, 5, 9, 18, 19, 20, 21, 22, 23, 24, 25, 26, 27] (by decide +kernel) (by decide +kernel)
set_option maxRecDepth 20000 in
theorem gX10_passOf_X10_noPass : GoodIn wsX10_passOf (wsV RX10 61 RX10 yX10_noPass wsX10_noPass) := goodIn_app (goodIn_of _ (by decide +kernel)) ggX10_passOf_X10_noPass
set_option maxRecDepth 20000 in
theorem ggX10_passOf_X10_in : GoodIn wsX10_passOf wsX10_in := goodIn_r _ [9] (by decide +kernel) (by decide +kernel)
set_option maxRecDepth 20000 in
theorem gX10_passOf_X10_in : GoodIn wsX10_passOf (va_wsS RX10 34 yX10_in wsX10_in) := goodIn_app (goodIn_of _ (by decide +kernel)) ggX10_passOf_X10_in
set_option maxRecDepth 20000 in
theorem ggX10_passOf_X10_userOf : GoodIn wsX10_passOf wsX10_userOf := goodIn_r _ [13, 1, 14, 15, 16, 5, 17, 7, 8, 9, 18, 19, 20, 21, 22, 23, 24, 25, 26, 27] (by decide +kernel) (by decide +kernel)
set_option maxRecDepth 20000 in
theorem gX10_passOf_X10_userOf : GoodIn wsX10_passOf (wsV RX10 104 RX10 yX10_userOf wsX10_userOf) := goodIn_app (goodIn_of _ (by decide +kernel)) ggX10_passOf_X10_userOf
theorem dX10_passOf_0 : decode cX10_passOf 0 = .ok (.aload_n 0, 1) := by decide +kernel
theorem dX10_passOf_1 : decode cX10_passOf 1 = .ok (.iload_n 1, 1) := by decide +kernel
theorem dX10_passOf_2 : decode cX10_passOf 2 = .ok (.invokevirtual 61, 3) := by decide +kernel
theorem dX10_passOf_5 : decode cX10_passOf 5 = .ok (.ifCond .eq 5, 3) := by decide +kernel
theorem dX10_passOf_8 : decode cX10_passOf 8 = .ok (.iconst (-1), 1) := by decide +kernel
theorem dX10_passOf_9 : decode cX10_passOf 9 = .ok (.ireturn, 1) := by decide +kernel
theorem dX10_passOf_10 : decode cX10_passOf 10 = .ok (.iload_n 2, 1) := by decide +kernel
theorem dX10_passOf_11 : decode cX10_passOf 11 = .ok (.iconst 0, 1) := by decide +kernel
theorem dX10_passOf_12 : decode cX10_passOf 12 = .ok (.iconst 1, 1) := by decide +kernel
theorem dX10_passOf_13 : decode cX10_passOf 13 = .ok (.invokestatic 34, 3) := by decide +kernel
theorem dX10_passOf_16 : decode cX10_passOf 16 = .ok (.ifCond .eq 20, 3) := by decide +kernel
theorem dX10_passOf_19 : decode cX10_passOf 19 = .ok (.aload_n 0, 1) := by decide +kernel
theorem dX10_passOf_20 : decode cX10_passOf 20 = .ok (.getfield 7, 3) := by decide +kernel
theorem dX10_passOf_23 : decode cX10_passOf 23 = .ok (.sipush 400, 3) := by decide +kernel
theorem dX10_passOf_26 : decode cX10_passOf 26 = .ok (.iconst 2, 1) := by decide +kernel
theorem dX10_passOf_27 : decode cX10_passOf 27 = .ok (.iload_n 1, 1) := by decide +kernel
theorem dX10_passOf_28 : decode cX10_passOf 28 = .ok (.imul, 1) := by decide +kernel
theorem dX10_passOf_29 : decode cX10_passOf 29 = .ok (.iadd, 1) := by decide +kernel
theorem dX10_passOf_30 : decode cX10_passOf 30 = .ok (.iload_n 2, 1) := by decide +kernel
theorem dX10_passOf_31 : decode cX10_passOf 31 = .ok (.iadd, 1) := by decide +kernel
theorem dX10_passOf_32 : decode cX10_passOf 32 = .ok (.iaload, 1) := by decide +kernel
theorem dX10_passOf_33 : decode cX10_passOf 33 = .ok (.goto 18, 3) := by decide +kernel
theorem dX10_passOf_36 : decode cX10_passOf 36 = .ok (.iload_n 2, 1) := by decide +kernel
theorem dX10_passOf_37 : decode cX10_passOf 37 = .ok (.iconst 2, 1) := by decide +kernel
theorem dX10_passOf_38 : decode cX10_passOf 38 = .ok (.if_icmp .ne 11, 3) := by decide +kernel
theorem dX10_passOf_41 : decode cX10_passOf 41 = .ok (.aload_n 0, 1) := by decide +kernel
theorem dX10_passOf_42 : decode cX10_passOf 42 = .ok (.iload_n 1, 1) := by decide +kernel
theorem dX10_passOf_43 : decode cX10_passOf 43 = .ok (.invokevirtual 104, 3) := by decide +kernel
theorem dX10_passOf_46 : decode cX10_passOf 46 = .ok (.goto 5, 3) := by decide +kernel
theorem dX10_passOf_49 : decode cX10_passOf 49 = .ok (.bipush (-2), 2) := by decide +kernel
theorem dX10_passOf_51 : decode cX10_passOf 51 = .ok (.ireturn, 1) := by decide +kernel
set_option maxRecDepth 20000 in
theorem ggX10_event_X10_in : GoodIn wsX10_event wsX10_in := goodIn_r _ [5] (by decide +kernel) (by decide +kernel)
set_option maxRecDepth 20000 in
theorem gX10_event_X10_in : GoodIn wsX10_event (va_wsS RX10 34 yX10_in wsX10_in) := goodIn_app (goodIn_of _ (by decide +kernel)) ggX10_event_X10_in
theorem dX10_event_0 : decode cX10_event 0 = .ok (.iload_n 1, 1) := by decide +kernel
theorem dX10_event_1 : decode cX10_event 1 = .ok (.ifCond .lt 12, 3) := by decide +kernel
theorem dX10_event_4 : decode cX10_event 4 = .ok (.iload_n 2, 1) := by decide +kernel
theorem dX10_event_5 : decode cX10_event 5 = .ok (.iconst 0, 1) := by decide +kernel
theorem dX10_event_6 : decode cX10_event 6 = .ok (.iconst 3, 1) := by decide +kernel
theorem dX10_event_7 : decode cX10_event 7 = .ok (.invokestatic 34, 3) := by decide +kernel
theorem dX10_event_10 : decode cX10_event 10 = .ok (.ifCond .ne 6, 3) := by decide +kernel
theorem dX10_event_13 : decode cX10_event 13 = .ok (.bipush (-2), 2) := by decide +kernel
theorem dX10_event_15 : decode cX10_event 15 = .ok (.ireturn, 1) := by decide +kernel
theorem dX10_event_16 : decode cX10_event 16 = .ok (.iload_n 1, 1) := by decide +kernel
theorem dX10_event_17 : decode cX10_event 17 = .ok (.aload_n 0, 1) := by decide +kernel
theorem dX10_event_18 : decode cX10_event 18 = .ok (.getfield 7, 3) := by decide +kernel
theorem dX10_event_21 : decode cX10_event 21 = .ok (.iconst 5, 1) := by decide +kernel
theorem dX10_event_22 : decode cX10_event 22 = .ok (.iaload, 1) := by decide +kernel
theorem dX10_event_23 : decode cX10_event 23 = .ok (.if_icmp .ge 20, 3) := by decide +kernel
theorem dX10_event_26 : decode cX10_event 26 = .ok (.aload_n 0, 1) := by decide +kernel
theorem dX10_event_27 : decode cX10_event 27 = .ok (.getfield 7, 3) := by decide +kernel
theorem dX10_event_30 : decode cX10_event 30 = .ok (.sipush 436, 3) := by decide +kernel
theorem dX10_event_33 : decode cX10_event 33 = .ok (.iconst 4, 1) := by decide +kernel
theorem dX10_event_34 : decode cX10_event 34 = .ok (.iload_n 1, 1) := by decide +kernel
theorem dX10_event_35 : decode cX10_event 35 = .ok (.imul, 1) := by decide +kernel
theorem dX10_event_36 : decode cX10_event 36 = .ok (.iadd, 1) := by decide +kernel
theorem dX10_event_37 : decode cX10_event 37 = .ok (.iload_n 2, 1) := by decide +kernel
theorem dX10_event_38 : decode cX10_event 38 = .ok (.iadd, 1) := by decide +kernel
theorem dX10_event_39 : decode cX10_event 39 = .ok (.iaload, 1) := by decide +kernel
theorem dX10_event_40 : decode cX10_event 40 = .ok (.goto 5, 3) := by decide +kernel
theorem dX10_event_43 : decode cX10_event 43 = .ok (.bipush (-5), 2) := by decide +kernel
theorem dX10_event_45 : decode cX10_event 45 = .ok (.ireturn, 1) := by decide +kernel
set_option maxRecDepth 20000 in
theorem ggX10_passesIn_X10_noPerson : GoodIn wsX10_passesIn wsX10_noPerson := goodIn_r _ [5, 6, 7, 8, 4, 9, 103, 104, 105, 106, 107, 108, 109, 110, 111, 112] (by decide +kernel) (by decide +kernel)
set_option maxRecDepth 20000 in
theorem gX10_passesIn_X10_noPerson : GoodIn wsX10_passesIn (wsV RX10 80 RX10 yX10_noPerson wsX10_noPerson) := goodIn_app (goodIn_of _ (by decide +kernel)) ggX10_passesIn_X10_noPerson
set_option maxRecDepth 20000 in
theorem ggX10_passesIn_X10_of : GoodIn wsX10_passesIn wsX10_of := goodIn_r _ [13, 6, 103, 104, 105, 106, 107, 108, 109, 110, 111, 112] (by decide +kernel) (by decide +kernel)
set_option maxRecDepth 20000 in
theorem gX10_passesIn_X10_of : GoodIn wsX10_passesIn (wsV RX10 64 RX10 yX10_of wsX10_of) := goodIn_app (goodIn_of _ (by decide +kernel)) ggX10_passesIn_X10_of
set_option maxRecDepth 20000 in
theorem ggX10_passesIn_X10_begin : GoodIn wsX10_passesIn wsX10_begin := goodIn_r _ [17, 18, 6, 103, 104, 105, 106, 107, 108, 109, 110, 111, 112] (by decide +kernel) (by decide +kernel)
set_option maxRecDepth 20000 in
theorem gX10_passesIn_X10_begin : GoodIn wsX10_passesIn (wsV RX10 38 RX10 yX10_begin wsX10_begin) := goodIn_app (goodIn_of _ (by decide +kernel)) ggX10_passesIn_X10_begin
set_option maxRecDepth 20000 in
theorem ggX10_passesIn_X10_tick : GoodIn wsX10_passesIn wsX10_tick := goodIn_r _ [22, 6, 23, 24, 25, 4, 26, 27, 28, 29, 30, 31, 32, 33, 34, 35, 36, 37, 38, 39, 40, 41, 42, 43, 44, 45, 46, 10, 11, 12, 13, 47, 48, 49, 50, 51, 52, 53, 54, 55, 56, 57, 58, 7, 8, 9, 59, 60, 61, 62, 63, 64, 65, 66, 67, 68, 69, 70, 71, 72, 73, 74, 75, 76, 77, 78, 79, 80, 81, 82, 83, 84, 85, 86, 87, 88, 89, 90, 91, 92, 93, 94, 95, 96, 97, 98, 103, 104, 105, 106, 107, 108, 109, 110, 111, 112] (by decide +kernel) (by decide +kernel)
set_option maxRecDepth 20000 in
theorem gX10_passesIn_X10_tick : GoodIn wsX10_passesIn (wsV RX10 141 RX10 yX10_tick wsX10_tick) := goodIn_app (goodIn_of _ (by decide +kernel)) ggX10_passesIn_X10_tick
set_option maxRecDepth 20000 in
theorem ggX10_passesIn_X10_goBack : GoodIn wsX10_passesIn wsX10_goBack := goodIn_r _ [102, 6, 18, 103, 104, 105, 106, 107, 108, 109, 110, 111, 112] (by decide +kernel) (by decide +kernel)
set_option maxRecDepth 20000 in
theorem gX10_passesIn_X10_goBack : GoodIn wsX10_passesIn (wsV RX10 186 RX10 yX10_goBack wsX10_goBack) := goodIn_app (goodIn_of _ (by decide +kernel)) ggX10_passesIn_X10_goBack
theorem dX10_passesIn_0 : decode cX10_passesIn 0 = .ok (.aload_n 0, 1) := by decide +kernel
theorem dX10_passesIn_1 : decode cX10_passesIn 1 = .ok (.iload_n 1, 1) := by decide +kernel
theorem dX10_passesIn_2 : decode cX10_passesIn 2 = .ok (.invokevirtual 80, 3) := by decide +kernel
theorem dX10_passesIn_5 : decode cX10_passesIn 5 = .ok (.ifCond .eq 5, 3) := by decide +kernel
theorem dX10_passesIn_8 : decode cX10_passesIn 8 = .ok (.iconst (-1), 1) := by decide +kernel
theorem dX10_passesIn_9 : decode cX10_passesIn 9 = .ok (.ireturn, 1) := by decide +kernel
theorem dX10_passesIn_10 : decode cX10_passesIn 10 = .ok (.aload_n 0, 1) := by decide +kernel
theorem dX10_passesIn_11 : decode cX10_passesIn 11 = .ok (.iload_n 1, 1) := by decide +kernel
theorem dX10_passesIn_12 : decode cX10_passesIn 12 = .ok (.iconst 0, 1) := by decide +kernel
theorem dX10_passesIn_13 : decode cX10_passesIn 13 = .ok (.invokevirtual 64, 3) := by decide +kernel
theorem dX10_passesIn_16 : decode cX10_passesIn 16 = .ok (.istore_n 2, 1) := by decide +kernel
theorem dX10_passesIn_17 : decode cX10_passesIn 17 = .ok (.iload_n 2, 1) := by decide +kernel
theorem dX10_passesIn_18 : decode cX10_passesIn 18 = .ok (.iconst 1, 1) := by decide +kernel
theorem dX10_passesIn_19 : decode cX10_passesIn 19 = .ok (.if_icmp .eq 16, 3) := by decide +kernel
theorem dX10_passesIn_22 : decode cX10_passesIn 22 = .ok (.iload_n 2, 1) := by decide +kernel
theorem dX10_passesIn_23 : decode cX10_passesIn 23 = .ok (.iconst 2, 1) := by decide +kernel
theorem dX10_passesIn_24 : decode cX10_passesIn 24 = .ok (.if_icmp .eq 11, 3) := by decide +kernel
theorem dX10_passesIn_27 : decode cX10_passesIn 27 = .ok (.iload_n 2, 1) := by decide +kernel
theorem dX10_passesIn_28 : decode cX10_passesIn 28 = .ok (.iconst 4, 1) := by decide +kernel
theorem dX10_passesIn_29 : decode cX10_passesIn 29 = .ok (.if_icmp .eq 6, 3) := by decide +kernel
theorem dX10_passesIn_32 : decode cX10_passesIn 32 = .ok (.bipush (-4), 2) := by decide +kernel
theorem dX10_passesIn_34 : decode cX10_passesIn 34 = .ok (.ireturn, 1) := by decide +kernel
theorem dX10_passesIn_35 : decode cX10_passesIn 35 = .ok (.aload_n 0, 1) := by decide +kernel
theorem dX10_passesIn_36 : decode cX10_passesIn 36 = .ok (.invokevirtual 38, 3) := by decide +kernel
theorem dX10_passesIn_39 : decode cX10_passesIn 39 = .ok (.iconst 0, 1) := by decide +kernel
theorem dX10_passesIn_40 : decode cX10_passesIn 40 = .ok (.istore_n 3, 1) := by decide +kernel
theorem dX10_passesIn_41 : decode cX10_passesIn 41 = .ok (.iload_n 3, 1) := by decide +kernel
theorem dX10_passesIn_42 : decode cX10_passesIn 42 = .ok (.sipush 500, 3) := by decide +kernel
theorem dX10_passesIn_45 : decode cX10_passesIn 45 = .ok (.if_icmp .ge 43, 3) := by decide +kernel
theorem dX10_passesIn_48 : decode cX10_passesIn 48 = .ok (.aload_n 0, 1) := by decide +kernel
theorem dX10_passesIn_49 : decode cX10_passesIn 49 = .ok (.iload_n 1, 1) := by decide +kernel
theorem dX10_passesIn_50 : decode cX10_passesIn 50 = .ok (.iconst 0, 1) := by decide +kernel
theorem dX10_passesIn_51 : decode cX10_passesIn 51 = .ok (.invokevirtual 64, 3) := by decide +kernel
theorem dX10_passesIn_54 : decode cX10_passesIn 54 = .ok (.iconst 1, 1) := by decide +kernel
theorem dX10_passesIn_55 : decode cX10_passesIn 55 = .ok (.if_icmp .eq 23, 3) := by decide +kernel
theorem dX10_passesIn_58 : decode cX10_passesIn 58 = .ok (.aload_n 0, 1) := by decide +kernel
theorem dX10_passesIn_59 : decode cX10_passesIn 59 = .ok (.iload_n 1, 1) := by decide +kernel
theorem dX10_passesIn_60 : decode cX10_passesIn 60 = .ok (.iconst 0, 1) := by decide +kernel
theorem dX10_passesIn_61 : decode cX10_passesIn 61 = .ok (.invokevirtual 64, 3) := by decide +kernel
theorem dX10_passesIn_64 : decode cX10_passesIn 64 = .ok (.iconst 2, 1) := by decide +kernel
theorem dX10_passesIn_65 : decode cX10_passesIn 65 = .ok (.if_icmp .eq 13, 3) := by decide +kernel
theorem dX10_passesIn_68 : decode cX10_passesIn 68 = .ok (.aload_n 0, 1) := by decide +kernel
theorem dX10_passesIn_69 : decode cX10_passesIn 69 = .ok (.iload_n 1, 1) := by decide +kernel
theorem dX10_passesIn_70 : decode cX10_passesIn 70 = .ok (.iconst 0, 1) := by decide +kernel
theorem dX10_passesIn_71 : decode cX10_passesIn 71 = .ok (.invokevirtual 64, 3) := by decide +kernel
theorem dX10_passesIn_74 : decode cX10_passesIn 74 = .ok (.iconst 4, 1) := by decide +kernel
theorem dX10_passesIn_75 : decode cX10_passesIn 75 = .ok (.if_icmp .ne 13, 3) := by decide +kernel
theorem dX10_passesIn_78 : decode cX10_passesIn 78 = .ok (.aload_n 0, 1) := by decide +kernel
theorem dX10_passesIn_79 : decode cX10_passesIn 79 = .ok (.invokevirtual 141, 3) := by decide +kernel
theorem dX10_passesIn_82 : decode cX10_passesIn 82 = .ok (.iinc 3 1, 3) := by decide +kernel
theorem dX10_passesIn_85 : decode cX10_passesIn 85 = .ok (.goto (-44), 3) := by decide +kernel
theorem dX10_passesIn_88 : decode cX10_passesIn 88 = .ok (.aload_n 0, 1) := by decide +kernel
theorem dX10_passesIn_89 : decode cX10_passesIn 89 = .ok (.iload_n 1, 1) := by decide +kernel
theorem dX10_passesIn_90 : decode cX10_passesIn 90 = .ok (.iconst 0, 1) := by decide +kernel
theorem dX10_passesIn_91 : decode cX10_passesIn 91 = .ok (.invokevirtual 64, 3) := by decide +kernel
theorem dX10_passesIn_94 : decode cX10_passesIn 94 = .ok (.istore 4, 2) := by decide +kernel
theorem dX10_passesIn_96 : decode cX10_passesIn 96 = .ok (.aload_n 0, 1) := by decide +kernel
theorem dX10_passesIn_97 : decode cX10_passesIn 97 = .ok (.invokevirtual 186, 3) := by decide +kernel
theorem dX10_passesIn_100 : decode cX10_passesIn 100 = .ok (.iload 4, 2) := by decide +kernel
theorem dX10_passesIn_102 : decode cX10_passesIn 102 = .ok (.iconst 3, 1) := by decide +kernel
theorem dX10_passesIn_103 : decode cX10_passesIn 103 = .ok (.if_icmp .eq 9, 3) := by decide +kernel
theorem dX10_passesIn_106 : decode cX10_passesIn 106 = .ok (.iload 4, 2) := by decide +kernel
theorem dX10_passesIn_108 : decode cX10_passesIn 108 = .ok (.iconst 5, 1) := by decide +kernel
theorem dX10_passesIn_109 : decode cX10_passesIn 109 = .ok (.if_icmp .ne 7, 3) := by decide +kernel
theorem dX10_passesIn_112 : decode cX10_passesIn 112 = .ok (.iload_n 3, 1) := by decide +kernel
theorem dX10_passesIn_113 : decode cX10_passesIn 113 = .ok (.goto 5, 3) := by decide +kernel
theorem dX10_passesIn_116 : decode cX10_passesIn 116 = .ok (.bipush (-5), 2) := by decide +kernel
theorem dX10_passesIn_118 : decode cX10_passesIn 118 = .ok (.ireturn, 1) := by decide +kernel
set_option maxRecDepth 20000 in
theorem ggX10_peopleAt_X10_of : GoodIn wsX10_peopleAt wsX10_of := goodIn_r _ [6, 1, 10, 11, 12, 13, 14, 15, 16, 17, 18, 19] (by decide +kernel) (by decide +kernel)
set_option maxRecDepth 20000 in
theorem gX10_peopleAt_X10_of : GoodIn wsX10_peopleAt (wsV RX10 64 RX10 yX10_of wsX10_of) := goodIn_app (goodIn_of _ (by decide +kernel)) ggX10_peopleAt_X10_of
set_option maxRecDepth 20000 in
theorem ggX10_peopleAt_X10_in : GoodIn wsX10_peopleAt wsX10_in := goodIn_r _ [9] (by decide +kernel) (by decide +kernel)
set_option maxRecDepth 20000 in
theorem gX10_peopleAt_X10_in : GoodIn wsX10_peopleAt (va_wsS RX10 34 yX10_in wsX10_in) := goodIn_app (goodIn_of _ (by decide +kernel)) ggX10_peopleAt_X10_in
theorem dX10_peopleAt_0 : decode cX10_peopleAt 0 = .ok (.iconst 0, 1) := by decide +kernel
theorem dX10_peopleAt_1 : decode cX10_peopleAt 1 = .ok (.istore_n 3, 1) := by decide +kernel
theorem dX10_peopleAt_2 : decode cX10_peopleAt 2 = .ok (.iconst 0, 1) := by decide +kernel
theorem dX10_peopleAt_3 : decode cX10_peopleAt 3 = .ok (.istore 4, 2) := by decide +kernel
theorem dX10_peopleAt_5 : decode cX10_peopleAt 5 = .ok (.iload 4, 2) := by decide +kernel
theorem dX10_peopleAt_7 : decode cX10_peopleAt 7 = .ok (.aload_n 0, 1) := by decide +kernel
theorem dX10_peopleAt_8 : decode cX10_peopleAt 8 = .ok (.getfield 7, 3) := by decide +kernel
theorem dX10_peopleAt_11 : decode cX10_peopleAt 11 = .ok (.iconst 2, 1) := by decide +kernel
theorem dX10_peopleAt_12 : decode cX10_peopleAt 12 = .ok (.iaload, 1) := by decide +kernel
theorem dX10_peopleAt_13 : decode cX10_peopleAt 13 = .ok (.if_icmp .ge 32, 3) := by decide +kernel
theorem dX10_peopleAt_16 : decode cX10_peopleAt 16 = .ok (.iload_n 3, 1) := by decide +kernel
theorem dX10_peopleAt_17 : decode cX10_peopleAt 17 = .ok (.aload_n 0, 1) := by decide +kernel
theorem dX10_peopleAt_18 : decode cX10_peopleAt 18 = .ok (.iload 4, 2) := by decide +kernel
theorem dX10_peopleAt_20 : decode cX10_peopleAt 20 = .ok (.iconst 0, 1) := by decide +kernel
theorem dX10_peopleAt_21 : decode cX10_peopleAt 21 = .ok (.invokevirtual 64, 3) := by decide +kernel
theorem dX10_peopleAt_24 : decode cX10_peopleAt 24 = .ok (.iload_n 1, 1) := by decide +kernel
theorem dX10_peopleAt_25 : decode cX10_peopleAt 25 = .ok (.iload_n 2, 1) := by decide +kernel
theorem dX10_peopleAt_26 : decode cX10_peopleAt 26 = .ok (.invokestatic 34, 3) := by decide +kernel
theorem dX10_peopleAt_29 : decode cX10_peopleAt 29 = .ok (.ifCond .eq 7, 3) := by decide +kernel
theorem dX10_peopleAt_32 : decode cX10_peopleAt 32 = .ok (.iconst 1, 1) := by decide +kernel
theorem dX10_peopleAt_33 : decode cX10_peopleAt 33 = .ok (.goto 4, 3) := by decide +kernel
theorem dX10_peopleAt_36 : decode cX10_peopleAt 36 = .ok (.iconst 0, 1) := by decide +kernel
theorem dX10_peopleAt_37 : decode cX10_peopleAt 37 = .ok (.iadd, 1) := by decide +kernel
theorem dX10_peopleAt_38 : decode cX10_peopleAt 38 = .ok (.istore_n 3, 1) := by decide +kernel
theorem dX10_peopleAt_39 : decode cX10_peopleAt 39 = .ok (.iinc 4 1, 3) := by decide +kernel
theorem dX10_peopleAt_42 : decode cX10_peopleAt 42 = .ok (.goto (-37), 3) := by decide +kernel
theorem dX10_peopleAt_45 : decode cX10_peopleAt 45 = .ok (.iload_n 3, 1) := by decide +kernel
theorem dX10_peopleAt_46 : decode cX10_peopleAt 46 = .ok (.ireturn, 1) := by decide +kernel
set_option maxRecDepth 20000 in
theorem ggX10_longest_X10_queueLength : GoodIn wsX10_longest wsX10_queueLength := goodIn_r _ [6, 1, 7, 8, 9, 5, 10, 11, 12, 13, 14, 15, 16, 17, 18, 19, 20, 21, 22, 23, 24] (by decide +kernel) (by decide +kernel)
set_option maxRecDepth 20000 in
theorem gX10_longest_X10_queueLength : GoodIn wsX10_longest (wsV RX10 83 RX10 yX10_queueLength wsX10_queueLength) := goodIn_app (goodIn_of _ (by decide +kernel)) ggX10_longest_X10_queueLength
theorem dX10_longest_0 : decode cX10_longest 0 = .ok (.bipush (-5), 2) := by decide +kernel
theorem dX10_longest_2 : decode cX10_longest 2 = .ok (.istore_n 1, 1) := by decide +kernel
theorem dX10_longest_3 : decode cX10_longest 3 = .ok (.iconst (-1), 1) := by decide +kernel
theorem dX10_longest_4 : decode cX10_longest 4 = .ok (.istore_n 2, 1) := by decide +kernel
theorem dX10_longest_5 : decode cX10_longest 5 = .ok (.iconst 0, 1) := by decide +kernel
theorem dX10_longest_6 : decode cX10_longest 6 = .ok (.istore_n 3, 1) := by decide +kernel
theorem dX10_longest_7 : decode cX10_longest 7 = .ok (.iload_n 3, 1) := by decide +kernel
theorem dX10_longest_8 : decode cX10_longest 8 = .ok (.aload_n 0, 1) := by decide +kernel
theorem dX10_longest_9 : decode cX10_longest 9 = .ok (.getfield 7, 3) := by decide +kernel
theorem dX10_longest_12 : decode cX10_longest 12 = .ok (.iconst 1, 1) := by decide +kernel
theorem dX10_longest_13 : decode cX10_longest 13 = .ok (.iaload, 1) := by decide +kernel
theorem dX10_longest_14 : decode cX10_longest 14 = .ok (.if_icmp .ge 49, 3) := by decide +kernel
theorem dX10_longest_17 : decode cX10_longest 17 = .ok (.aload_n 0, 1) := by decide +kernel
theorem dX10_longest_18 : decode cX10_longest 18 = .ok (.iload_n 3, 1) := by decide +kernel
theorem dX10_longest_19 : decode cX10_longest 19 = .ok (.iconst 0, 1) := by decide +kernel
theorem dX10_longest_20 : decode cX10_longest 20 = .ok (.invokevirtual 83, 3) := by decide +kernel
theorem dX10_longest_23 : decode cX10_longest 23 = .ok (.aload_n 0, 1) := by decide +kernel
theorem dX10_longest_24 : decode cX10_longest 24 = .ok (.iload_n 3, 1) := by decide +kernel
theorem dX10_longest_25 : decode cX10_longest 25 = .ok (.iconst 1, 1) := by decide +kernel
theorem dX10_longest_26 : decode cX10_longest 26 = .ok (.invokevirtual 83, 3) := by decide +kernel
theorem dX10_longest_29 : decode cX10_longest 29 = .ok (.iadd, 1) := by decide +kernel
theorem dX10_longest_30 : decode cX10_longest 30 = .ok (.istore 4, 2) := by decide +kernel
theorem dX10_longest_32 : decode cX10_longest 32 = .ok (.iload 4, 2) := by decide +kernel
theorem dX10_longest_34 : decode cX10_longest 34 = .ok (.iload_n 2, 1) := by decide +kernel
theorem dX10_longest_35 : decode cX10_longest 35 = .ok (.if_icmp .le 7, 3) := by decide +kernel
theorem dX10_longest_38 : decode cX10_longest 38 = .ok (.iload_n 3, 1) := by decide +kernel
theorem dX10_longest_39 : decode cX10_longest 39 = .ok (.goto 4, 3) := by decide +kernel
theorem dX10_longest_42 : decode cX10_longest 42 = .ok (.iload_n 1, 1) := by decide +kernel
theorem dX10_longest_43 : decode cX10_longest 43 = .ok (.istore_n 1, 1) := by decide +kernel
theorem dX10_longest_44 : decode cX10_longest 44 = .ok (.iload 4, 2) := by decide +kernel
theorem dX10_longest_46 : decode cX10_longest 46 = .ok (.iload_n 2, 1) := by decide +kernel
theorem dX10_longest_47 : decode cX10_longest 47 = .ok (.if_icmp .le 8, 3) := by decide +kernel
theorem dX10_longest_50 : decode cX10_longest 50 = .ok (.iload 4, 2) := by decide +kernel
theorem dX10_longest_52 : decode cX10_longest 52 = .ok (.goto 4, 3) := by decide +kernel
theorem dX10_longest_55 : decode cX10_longest 55 = .ok (.iload_n 2, 1) := by decide +kernel
theorem dX10_longest_56 : decode cX10_longest 56 = .ok (.istore_n 2, 1) := by decide +kernel
theorem dX10_longest_57 : decode cX10_longest 57 = .ok (.iinc 3 1, 3) := by decide +kernel
theorem dX10_longest_60 : decode cX10_longest 60 = .ok (.goto (-53), 3) := by decide +kernel
theorem dX10_longest_63 : decode cX10_longest 63 = .ok (.iload_n 1, 1) := by decide +kernel
theorem dX10_longest_64 : decode cX10_longest 64 = .ok (.ireturn, 1) := by decide +kernel
set_option maxRecDepth 20000 in
theorem ggX10_count_X10_gateOf : GoodIn wsX10_count wsX10_gateOf := goodIn_r _ [8, 1, 32, 33, 34, 35, 36, 37, 38, 39, 40, 41] (by decide +kernel) (by decide +kernel)
set_option maxRecDepth 20000 in
theorem gX10_count_X10_gateOf : GoodIn wsX10_count (wsV RX10 52 RX10 yX10_gateOf wsX10_gateOf) := goodIn_app (goodIn_of _ (by decide +kernel)) ggX10_count_X10_gateOf
set_option maxRecDepth 20000 in
theorem ggX10_count_X10_peopleAt : GoodIn wsX10_count wsX10_peopleAt := goodIn_r _ [12, 1, 13, 14, 15, 7, 16, 17, 18, 19, 32, 33, 34, 35, 36, 37, 38, 39, 40, 41] (by decide +kernel) (by decide +kernel)
set_option maxRecDepth 20000 in
theorem gX10_count_X10_peopleAt : GoodIn wsX10_count (wsV RX10 189 RX10 yX10_peopleAt wsX10_peopleAt) := goodIn_app (goodIn_of _ (by decide +kernel)) ggX10_count_X10_peopleAt
set_option maxRecDepth 20000 in
theorem ggX10_count_X10_longest : GoodIn wsX10_count wsX10_longest := goodIn_r _ [23, 1, 24, 25, 26, 7, 27, 28, 29, 30, 31, 13, 14, 15, 16, 32, 33, 34, 35, 36, 37, 38, 39, 40, 41] (by decide +kernel) (by decide +kernel)
set_option maxRecDepth 20000 in
theorem gX10_count_X10_longest : GoodIn wsX10_count (wsV RX10 192 RX10 yX10_longest wsX10_longest) := goodIn_app (goodIn_of _ (by decide +kernel)) ggX10_count_X10_longest
theorem dX10_count_0 : decode cX10_count 0 = .ok (.iconst 0, 1) := by decide +kernel
theorem dX10_count_1 : decode cX10_count 1 = .ok (.istore_n 2, 1) := by decide +kernel
theorem dX10_count_2 : decode cX10_count 2 = .ok (.iconst 0, 1) := by decide +kernel
theorem dX10_count_3 : decode cX10_count 3 = .ok (.istore_n 3, 1) := by decide +kernel
theorem dX10_count_4 : decode cX10_count 4 = .ok (.iload_n 3, 1) := by decide +kernel
theorem dX10_count_5 : decode cX10_count 5 = .ok (.aload_n 0, 1) := by decide +kernel
theorem dX10_count_6 : decode cX10_count 6 = .ok (.getfield 7, 3) := by decide +kernel
theorem dX10_count_9 : decode cX10_count 9 = .ok (.iconst 1, 1) := by decide +kernel
theorem dX10_count_10 : decode cX10_count 10 = .ok (.iaload, 1) := by decide +kernel
theorem dX10_count_11 : decode cX10_count 11 = .ok (.if_icmp .ge 19, 3) := by decide +kernel
theorem dX10_count_14 : decode cX10_count 14 = .ok (.iload_n 2, 1) := by decide +kernel
theorem dX10_count_15 : decode cX10_count 15 = .ok (.aload_n 0, 1) := by decide +kernel
theorem dX10_count_16 : decode cX10_count 16 = .ok (.iload_n 3, 1) := by decide +kernel
theorem dX10_count_17 : decode cX10_count 17 = .ok (.bipush 12, 2) := by decide +kernel
theorem dX10_count_19 : decode cX10_count 19 = .ok (.invokevirtual 52, 3) := by decide +kernel
theorem dX10_count_22 : decode cX10_count 22 = .ok (.iadd, 1) := by decide +kernel
theorem dX10_count_23 : decode cX10_count 23 = .ok (.istore_n 2, 1) := by decide +kernel
theorem dX10_count_24 : decode cX10_count 24 = .ok (.iinc 3 1, 3) := by decide +kernel
theorem dX10_count_27 : decode cX10_count 27 = .ok (.goto (-23), 3) := by decide +kernel
theorem dX10_count_30 : decode cX10_count 30 = .ok (.iconst 0, 1) := by decide +kernel
theorem dX10_count_31 : decode cX10_count 31 = .ok (.istore_n 3, 1) := by decide +kernel
theorem dX10_count_32 : decode cX10_count 32 = .ok (.iconst 0, 1) := by decide +kernel
theorem dX10_count_33 : decode cX10_count 33 = .ok (.istore 4, 2) := by decide +kernel
theorem dX10_count_35 : decode cX10_count 35 = .ok (.iload 4, 2) := by decide +kernel
theorem dX10_count_37 : decode cX10_count 37 = .ok (.aload_n 0, 1) := by decide +kernel
theorem dX10_count_38 : decode cX10_count 38 = .ok (.getfield 7, 3) := by decide +kernel
theorem dX10_count_41 : decode cX10_count 41 = .ok (.iconst 4, 1) := by decide +kernel
theorem dX10_count_42 : decode cX10_count 42 = .ok (.iaload, 1) := by decide +kernel
theorem dX10_count_43 : decode cX10_count 43 = .ok (.if_icmp .ge 27, 3) := by decide +kernel
theorem dX10_count_46 : decode cX10_count 46 = .ok (.iload_n 3, 1) := by decide +kernel
theorem dX10_count_47 : decode cX10_count 47 = .ok (.aload_n 0, 1) := by decide +kernel
theorem dX10_count_48 : decode cX10_count 48 = .ok (.getfield 7, 3) := by decide +kernel
theorem dX10_count_51 : decode cX10_count 51 = .ok (.sipush 424, 3) := by decide +kernel
theorem dX10_count_54 : decode cX10_count 54 = .ok (.iconst 3, 1) := by decide +kernel
theorem dX10_count_55 : decode cX10_count 55 = .ok (.iload 4, 2) := by decide +kernel
theorem dX10_count_57 : decode cX10_count 57 = .ok (.imul, 1) := by decide +kernel
theorem dX10_count_58 : decode cX10_count 58 = .ok (.iadd, 1) := by decide +kernel
theorem dX10_count_59 : decode cX10_count 59 = .ok (.iconst 2, 1) := by decide +kernel
theorem dX10_count_60 : decode cX10_count 60 = .ok (.iadd, 1) := by decide +kernel
theorem dX10_count_61 : decode cX10_count 61 = .ok (.iaload, 1) := by decide +kernel
theorem dX10_count_62 : decode cX10_count 62 = .ok (.iadd, 1) := by decide +kernel
theorem dX10_count_63 : decode cX10_count 63 = .ok (.istore_n 3, 1) := by decide +kernel
theorem dX10_count_64 : decode cX10_count 64 = .ok (.iinc 4 1, 3) := by decide +kernel
theorem dX10_count_67 : decode cX10_count 67 = .ok (.goto (-32), 3) := by decide +kernel
theorem dX10_count_70 : decode cX10_count 70 = .ok (.iload_n 1, 1) := by decide +kernel
theorem dX10_count_71 : decode cX10_count 71 = .ok (.tableswitch 141 0 12 #[65, 72, 79, 86, 93, 100, 107, 114, 116, 118, 126, 131, 136], 65) := by decide +kernel
theorem dX10_count_136 : decode cX10_count 136 = .ok (.aload_n 0, 1) := by decide +kernel
theorem dX10_count_137 : decode cX10_count 137 = .ok (.getfield 7, 3) := by decide +kernel
theorem dX10_count_140 : decode cX10_count 140 = .ok (.iconst 0, 1) := by decide +kernel
theorem dX10_count_141 : decode cX10_count 141 = .ok (.iaload, 1) := by decide +kernel
theorem dX10_count_142 : decode cX10_count 142 = .ok (.ireturn, 1) := by decide +kernel
theorem dX10_count_143 : decode cX10_count 143 = .ok (.aload_n 0, 1) := by decide +kernel
theorem dX10_count_144 : decode cX10_count 144 = .ok (.getfield 7, 3) := by decide +kernel
theorem dX10_count_147 : decode cX10_count 147 = .ok (.iconst 1, 1) := by decide +kernel
theorem dX10_count_148 : decode cX10_count 148 = .ok (.iaload, 1) := by decide +kernel
theorem dX10_count_149 : decode cX10_count 149 = .ok (.ireturn, 1) := by decide +kernel
theorem dX10_count_150 : decode cX10_count 150 = .ok (.aload_n 0, 1) := by decide +kernel
theorem dX10_count_151 : decode cX10_count 151 = .ok (.getfield 7, 3) := by decide +kernel
theorem dX10_count_154 : decode cX10_count 154 = .ok (.iconst 2, 1) := by decide +kernel
theorem dX10_count_155 : decode cX10_count 155 = .ok (.iaload, 1) := by decide +kernel
theorem dX10_count_156 : decode cX10_count 156 = .ok (.ireturn, 1) := by decide +kernel
theorem dX10_count_157 : decode cX10_count 157 = .ok (.aload_n 0, 1) := by decide +kernel
theorem dX10_count_158 : decode cX10_count 158 = .ok (.iconst 3, 1) := by decide +kernel
theorem dX10_count_159 : decode cX10_count 159 = .ok (.iconst 4, 1) := by decide +kernel
theorem dX10_count_160 : decode cX10_count 160 = .ok (.invokevirtual 189, 3) := by decide +kernel
theorem dX10_count_163 : decode cX10_count 163 = .ok (.ireturn, 1) := by decide +kernel
theorem dX10_count_164 : decode cX10_count 164 = .ok (.aload_n 0, 1) := by decide +kernel
theorem dX10_count_165 : decode cX10_count 165 = .ok (.iconst 1, 1) := by decide +kernel
theorem dX10_count_166 : decode cX10_count 166 = .ok (.iconst 1, 1) := by decide +kernel
theorem dX10_count_167 : decode cX10_count 167 = .ok (.invokevirtual 189, 3) := by decide +kernel
theorem dX10_count_170 : decode cX10_count 170 = .ok (.ireturn, 1) := by decide +kernel
theorem dX10_count_171 : decode cX10_count 171 = .ok (.aload_n 0, 1) := by decide +kernel
theorem dX10_count_172 : decode cX10_count 172 = .ok (.iconst 2, 1) := by decide +kernel
theorem dX10_count_173 : decode cX10_count 173 = .ok (.iconst 2, 1) := by decide +kernel
theorem dX10_count_174 : decode cX10_count 174 = .ok (.invokevirtual 189, 3) := by decide +kernel
theorem dX10_count_177 : decode cX10_count 177 = .ok (.ireturn, 1) := by decide +kernel
theorem dX10_count_178 : decode cX10_count 178 = .ok (.aload_n 0, 1) := by decide +kernel
theorem dX10_count_179 : decode cX10_count 179 = .ok (.iconst 5, 1) := by decide +kernel
theorem dX10_count_180 : decode cX10_count 180 = .ok (.iconst 5, 1) := by decide +kernel
theorem dX10_count_181 : decode cX10_count 181 = .ok (.invokevirtual 189, 3) := by decide +kernel
theorem dX10_count_184 : decode cX10_count 184 = .ok (.ireturn, 1) := by decide +kernel
theorem dX10_count_185 : decode cX10_count 185 = .ok (.iload_n 2, 1) := by decide +kernel
theorem dX10_count_186 : decode cX10_count 186 = .ok (.ireturn, 1) := by decide +kernel
theorem dX10_count_187 : decode cX10_count 187 = .ok (.iload_n 3, 1) := by decide +kernel
theorem dX10_count_188 : decode cX10_count 188 = .ok (.ireturn, 1) := by decide +kernel
theorem dX10_count_189 : decode cX10_count 189 = .ok (.aload_n 0, 1) := by decide +kernel
theorem dX10_count_190 : decode cX10_count 190 = .ok (.getfield 7, 3) := by decide +kernel
theorem dX10_count_193 : decode cX10_count 193 = .ok (.bipush 6, 2) := by decide +kernel
theorem dX10_count_195 : decode cX10_count 195 = .ok (.iaload, 1) := by decide +kernel
theorem dX10_count_196 : decode cX10_count 196 = .ok (.ireturn, 1) := by decide +kernel
theorem dX10_count_197 : decode cX10_count 197 = .ok (.aload_n 0, 1) := by decide +kernel
theorem dX10_count_198 : decode cX10_count 198 = .ok (.invokevirtual 192, 3) := by decide +kernel
theorem dX10_count_201 : decode cX10_count 201 = .ok (.ireturn, 1) := by decide +kernel
theorem dX10_count_202 : decode cX10_count 202 = .ok (.aload_n 0, 1) := by decide +kernel
theorem dX10_count_203 : decode cX10_count 203 = .ok (.getfield 26, 3) := by decide +kernel
theorem dX10_count_206 : decode cX10_count 206 = .ok (.ireturn, 1) := by decide +kernel
theorem dX10_count_207 : decode cX10_count 207 = .ok (.aload_n 0, 1) := by decide +kernel
theorem dX10_count_208 : decode cX10_count 208 = .ok (.getfield 150, 3) := by decide +kernel
theorem dX10_count_211 : decode cX10_count 211 = .ok (.ireturn, 1) := by decide +kernel
theorem dX10_count_212 : decode cX10_count 212 = .ok (.bipush (-2), 2) := by decide +kernel
theorem dX10_count_214 : decode cX10_count 214 = .ok (.ireturn, 1) := by decide +kernel
theorem dJ9_floorMod_7cf53_0 : decode cJ9_floorMod_7cf53 0 = .ok (.iload_n 0, 1) := by decide +kernel
theorem dJ9_floorMod_7cf53_1 : decode cJ9_floorMod_7cf53 1 = .ok (.iload_n 1, 1) := by decide +kernel
theorem dJ9_floorMod_7cf53_2 : decode cJ9_floorMod_7cf53 2 = .ok (.irem, 1) := by decide +kernel
theorem dJ9_floorMod_7cf53_3 : decode cJ9_floorMod_7cf53 3 = .ok (.istore_n 2, 1) := by decide +kernel
theorem dJ9_floorMod_7cf53_4 : decode cJ9_floorMod_7cf53 4 = .ok (.iload_n 0, 1) := by decide +kernel
theorem dJ9_floorMod_7cf53_5 : decode cJ9_floorMod_7cf53 5 = .ok (.iload_n 1, 1) := by decide +kernel
theorem dJ9_floorMod_7cf53_6 : decode cJ9_floorMod_7cf53 6 = .ok (.ixor, 1) := by decide +kernel
theorem dJ9_floorMod_7cf53_7 : decode cJ9_floorMod_7cf53 7 = .ok (.ifCond .ge 11, 3) := by decide +kernel
theorem dJ9_floorMod_7cf53_10 : decode cJ9_floorMod_7cf53 10 = .ok (.iload_n 2, 1) := by decide +kernel
theorem dJ9_floorMod_7cf53_11 : decode cJ9_floorMod_7cf53 11 = .ok (.ifCond .eq 7, 3) := by decide +kernel
theorem dJ9_floorMod_7cf53_14 : decode cJ9_floorMod_7cf53 14 = .ok (.iload_n 2, 1) := by decide +kernel
theorem dJ9_floorMod_7cf53_15 : decode cJ9_floorMod_7cf53 15 = .ok (.iload_n 1, 1) := by decide +kernel
theorem dJ9_floorMod_7cf53_16 : decode cJ9_floorMod_7cf53 16 = .ok (.iadd, 1) := by decide +kernel
theorem dJ9_floorMod_7cf53_17 : decode cJ9_floorMod_7cf53 17 = .ok (.ireturn, 1) := by decide +kernel
theorem dJ9_floorMod_7cf53_18 : decode cJ9_floorMod_7cf53 18 = .ok (.iload_n 2, 1) := by decide +kernel
theorem dJ9_floorMod_7cf53_19 : decode cJ9_floorMod_7cf53 19 = .ok (.ireturn, 1) := by decide +kernel
theorem dJ9_max_7cf53_0 : decode cJ9_max_7cf53 0 = .ok (.iload_n 0, 1) := by decide +kernel
theorem dJ9_max_7cf53_1 : decode cJ9_max_7cf53 1 = .ok (.iload_n 1, 1) := by decide +kernel
theorem dJ9_max_7cf53_2 : decode cJ9_max_7cf53 2 = .ok (.if_icmp .lt 7, 3) := by decide +kernel
theorem dJ9_max_7cf53_5 : decode cJ9_max_7cf53 5 = .ok (.iload_n 0, 1) := by decide +kernel
theorem dJ9_max_7cf53_6 : decode cJ9_max_7cf53 6 = .ok (.goto 4, 3) := by decide +kernel
theorem dJ9_max_7cf53_9 : decode cJ9_max_7cf53 9 = .ok (.iload_n 1, 1) := by decide +kernel
theorem dJ9_max_7cf53_10 : decode cJ9_max_7cf53 10 = .ok (.ireturn, 1) := by decide +kernel
theorem dJ9_min_7cf53_0 : decode cJ9_min_7cf53 0 = .ok (.iload_n 0, 1) := by decide +kernel
theorem dJ9_min_7cf53_1 : decode cJ9_min_7cf53 1 = .ok (.iload_n 1, 1) := by decide +kernel
theorem dJ9_min_7cf53_2 : decode cJ9_min_7cf53 2 = .ok (.if_icmp .gt 7, 3) := by decide +kernel
theorem dJ9_min_7cf53_5 : decode cJ9_min_7cf53 5 = .ok (.iload_n 0, 1) := by decide +kernel
theorem dJ9_min_7cf53_6 : decode cJ9_min_7cf53 6 = .ok (.goto 4, 3) := by decide +kernel
theorem dJ9_min_7cf53_9 : decode cJ9_min_7cf53 9 = .ok (.iload_n 1, 1) := by decide +kernel
theorem dJ9_min_7cf53_10 : decode cJ9_min_7cf53 10 = .ok (.ireturn, 1) := by decide +kernel
theorem dL_law_0 : decode cL_law 0 = .ok (.new 7, 3) := by decide +kernel
theorem dL_law_3 : decode cL_law 3 = .ok (.dup, 1) := by decide +kernel
theorem dL_law_4 : decode cL_law 4 = .ok (.invokespecial 9, 3) := by decide +kernel
theorem dL_law_7 : decode cL_law 7 = .ok (.astore_n 1, 1) := by decide +kernel
theorem dL_law_8 : decode cL_law 8 = .ok (.new 10, 3) := by decide +kernel
theorem dL_law_11 : decode cL_law 11 = .ok (.dup, 1) := by decide +kernel
theorem dL_law_12 : decode cL_law 12 = .ok (.invokespecial 12, 3) := by decide +kernel
theorem dL_law_15 : decode cL_law 15 = .ok (.astore_n 2, 1) := by decide +kernel
theorem dL_law_16 : decode cL_law 16 = .ok (.iconst 0, 1) := by decide +kernel
theorem dL_law_17 : decode cL_law 17 = .ok (.istore_n 3, 1) := by decide +kernel
theorem dL_law_18 : decode cL_law 18 = .ok (.iload_n 3, 1) := by decide +kernel
theorem dL_law_19 : decode cL_law 19 = .ok (.aload_n 0, 1) := by decide +kernel
theorem dL_law_20 : decode cL_law 20 = .ok (.arraylength, 1) := by decide +kernel
theorem dL_law_21 : decode cL_law 21 = .ok (.iconst 5, 1) := by decide +kernel
theorem dL_law_22 : decode cL_law 22 = .ok (.isub, 1) := by decide +kernel
theorem dL_law_23 : decode cL_law 23 = .ok (.if_icmp .gt 907, 3) := by decide +kernel
theorem dL_law_26 : decode cL_law 26 = .ok (.aload_n 0, 1) := by decide +kernel
theorem dL_law_27 : decode cL_law 27 = .ok (.iload_n 3, 1) := by decide +kernel
theorem dL_law_28 : decode cL_law 28 = .ok (.iaload, 1) := by decide +kernel
theorem dL_law_29 : decode cL_law 29 = .ok (.bipush 31, 2) := by decide +kernel
theorem dL_law_31 : decode cL_law 31 = .ok (.iand, 1) := by decide +kernel
theorem dL_law_32 : decode cL_law 32 = .ok (.tableswitch 892 0 25 #[120, 173, 206, 229, 262, 285, 334, 357, 416, 449, 482, 505, 528, 551, 574, 599, 612, 625, 638, 671, 714, 747, 780, 813, 846, 869], 120) := by decide +kernel
theorem dL_law_152 : decode cL_law 152 = .ok (.aload_n 1, 1) := by decide +kernel
theorem dL_law_153 : decode cL_law 153 = .ok (.aload_n 0, 1) := by decide +kernel
theorem dL_law_154 : decode cL_law 154 = .ok (.iload_n 3, 1) := by decide +kernel
theorem dL_law_155 : decode cL_law 155 = .ok (.iconst 1, 1) := by decide +kernel
theorem dL_law_156 : decode cL_law 156 = .ok (.iadd, 1) := by decide +kernel
theorem dL_law_157 : decode cL_law 157 = .ok (.iaload, 1) := by decide +kernel
theorem dL_law_158 : decode cL_law 158 = .ok (.aload_n 0, 1) := by decide +kernel
theorem dL_law_159 : decode cL_law 159 = .ok (.iload_n 3, 1) := by decide +kernel
theorem dL_law_160 : decode cL_law 160 = .ok (.iconst 2, 1) := by decide +kernel
theorem dL_law_161 : decode cL_law 161 = .ok (.iadd, 1) := by decide +kernel
theorem dL_law_162 : decode cL_law 162 = .ok (.iaload, 1) := by decide +kernel
theorem dL_law_163 : decode cL_law 163 = .ok (.aload_n 0, 1) := by decide +kernel
theorem dL_law_164 : decode cL_law 164 = .ok (.iload_n 3, 1) := by decide +kernel
theorem dL_law_165 : decode cL_law 165 = .ok (.iconst 3, 1) := by decide +kernel
theorem dL_law_166 : decode cL_law 166 = .ok (.iadd, 1) := by decide +kernel
theorem dL_law_167 : decode cL_law 167 = .ok (.iaload, 1) := by decide +kernel
theorem dL_law_168 : decode cL_law 168 = .ok (.aload_n 0, 1) := by decide +kernel
theorem dL_law_169 : decode cL_law 169 = .ok (.iload_n 3, 1) := by decide +kernel
theorem dL_law_170 : decode cL_law 170 = .ok (.iconst 4, 1) := by decide +kernel
theorem dL_law_171 : decode cL_law 171 = .ok (.iadd, 1) := by decide +kernel
theorem dL_law_172 : decode cL_law 172 = .ok (.iaload, 1) := by decide +kernel
theorem dL_law_173 : decode cL_law 173 = .ok (.invokevirtual 13, 3) := by decide +kernel
theorem dL_law_176 : decode cL_law 176 = .ok (.aload_n 2, 1) := by decide +kernel
theorem dL_law_177 : decode cL_law 177 = .ok (.aload_n 0, 1) := by decide +kernel
theorem dL_law_178 : decode cL_law 178 = .ok (.iload_n 3, 1) := by decide +kernel
theorem dL_law_179 : decode cL_law 179 = .ok (.iconst 1, 1) := by decide +kernel
theorem dL_law_180 : decode cL_law 180 = .ok (.iadd, 1) := by decide +kernel
theorem dL_law_181 : decode cL_law 181 = .ok (.iaload, 1) := by decide +kernel
theorem dL_law_182 : decode cL_law 182 = .ok (.aload_n 0, 1) := by decide +kernel
theorem dL_law_183 : decode cL_law 183 = .ok (.iload_n 3, 1) := by decide +kernel
theorem dL_law_184 : decode cL_law 184 = .ok (.iconst 2, 1) := by decide +kernel
theorem dL_law_185 : decode cL_law 185 = .ok (.iadd, 1) := by decide +kernel
theorem dL_law_186 : decode cL_law 186 = .ok (.iaload, 1) := by decide +kernel
theorem dL_law_187 : decode cL_law 187 = .ok (.aload_n 0, 1) := by decide +kernel
theorem dL_law_188 : decode cL_law 188 = .ok (.iload_n 3, 1) := by decide +kernel
theorem dL_law_189 : decode cL_law 189 = .ok (.iconst 3, 1) := by decide +kernel
theorem dL_law_190 : decode cL_law 190 = .ok (.iadd, 1) := by decide +kernel
theorem dL_law_191 : decode cL_law 191 = .ok (.iaload, 1) := by decide +kernel
theorem dL_law_192 : decode cL_law 192 = .ok (.aload_n 0, 1) := by decide +kernel
theorem dL_law_193 : decode cL_law 193 = .ok (.iload_n 3, 1) := by decide +kernel
theorem dL_law_194 : decode cL_law 194 = .ok (.iconst 4, 1) := by decide +kernel
theorem dL_law_195 : decode cL_law 195 = .ok (.iadd, 1) := by decide +kernel
theorem dL_law_196 : decode cL_law 196 = .ok (.iaload, 1) := by decide +kernel
theorem dL_law_197 : decode cL_law 197 = .ok (.invokevirtual 17, 3) := by decide +kernel
theorem dL_law_200 : decode cL_law 200 = .ok (.if_icmp .eq 724, 3) := by decide +kernel
theorem dL_law_203 : decode cL_law 203 = .ok (.iconst 0, 1) := by decide +kernel
theorem dL_law_204 : decode cL_law 204 = .ok (.ireturn, 1) := by decide +kernel
theorem dL_law_205 : decode cL_law 205 = .ok (.aload_n 1, 1) := by decide +kernel
theorem dL_law_206 : decode cL_law 206 = .ok (.aload_n 0, 1) := by decide +kernel
theorem dL_law_207 : decode cL_law 207 = .ok (.iload_n 3, 1) := by decide +kernel
theorem dL_law_208 : decode cL_law 208 = .ok (.iconst 1, 1) := by decide +kernel
theorem dL_law_209 : decode cL_law 209 = .ok (.iadd, 1) := by decide +kernel
theorem dL_law_210 : decode cL_law 210 = .ok (.iaload, 1) := by decide +kernel
theorem dL_law_211 : decode cL_law 211 = .ok (.aload_n 0, 1) := by decide +kernel
theorem dL_law_212 : decode cL_law 212 = .ok (.iload_n 3, 1) := by decide +kernel
theorem dL_law_213 : decode cL_law 213 = .ok (.iconst 2, 1) := by decide +kernel
theorem dL_law_214 : decode cL_law 214 = .ok (.iadd, 1) := by decide +kernel
theorem dL_law_215 : decode cL_law 215 = .ok (.iaload, 1) := by decide +kernel
theorem dL_law_216 : decode cL_law 216 = .ok (.invokevirtual 18, 3) := by decide +kernel
theorem dL_law_219 : decode cL_law 219 = .ok (.aload_n 2, 1) := by decide +kernel
theorem dL_law_220 : decode cL_law 220 = .ok (.aload_n 0, 1) := by decide +kernel
theorem dL_law_221 : decode cL_law 221 = .ok (.iload_n 3, 1) := by decide +kernel
theorem dL_law_222 : decode cL_law 222 = .ok (.iconst 1, 1) := by decide +kernel
theorem dL_law_223 : decode cL_law 223 = .ok (.iadd, 1) := by decide +kernel
theorem dL_law_224 : decode cL_law 224 = .ok (.iaload, 1) := by decide +kernel
theorem dL_law_225 : decode cL_law 225 = .ok (.aload_n 0, 1) := by decide +kernel
theorem dL_law_226 : decode cL_law 226 = .ok (.iload_n 3, 1) := by decide +kernel
theorem dL_law_227 : decode cL_law 227 = .ok (.iconst 2, 1) := by decide +kernel
theorem dL_law_228 : decode cL_law 228 = .ok (.iadd, 1) := by decide +kernel
theorem dL_law_229 : decode cL_law 229 = .ok (.iaload, 1) := by decide +kernel
theorem dL_law_230 : decode cL_law 230 = .ok (.invokevirtual 22, 3) := by decide +kernel
theorem dL_law_233 : decode cL_law 233 = .ok (.if_icmp .eq 691, 3) := by decide +kernel
theorem dL_law_236 : decode cL_law 236 = .ok (.iconst 0, 1) := by decide +kernel
theorem dL_law_237 : decode cL_law 237 = .ok (.ireturn, 1) := by decide +kernel
theorem dL_law_238 : decode cL_law 238 = .ok (.aload_n 1, 1) := by decide +kernel
theorem dL_law_239 : decode cL_law 239 = .ok (.aload_n 0, 1) := by decide +kernel
theorem dL_law_240 : decode cL_law 240 = .ok (.iload_n 3, 1) := by decide +kernel
theorem dL_law_241 : decode cL_law 241 = .ok (.iconst 1, 1) := by decide +kernel
theorem dL_law_242 : decode cL_law 242 = .ok (.iadd, 1) := by decide +kernel
theorem dL_law_243 : decode cL_law 243 = .ok (.iaload, 1) := by decide +kernel
theorem dL_law_244 : decode cL_law 244 = .ok (.invokevirtual 23, 3) := by decide +kernel
theorem dL_law_247 : decode cL_law 247 = .ok (.aload_n 2, 1) := by decide +kernel
theorem dL_law_248 : decode cL_law 248 = .ok (.aload_n 0, 1) := by decide +kernel
theorem dL_law_249 : decode cL_law 249 = .ok (.iload_n 3, 1) := by decide +kernel
theorem dL_law_250 : decode cL_law 250 = .ok (.iconst 1, 1) := by decide +kernel
theorem dL_law_251 : decode cL_law 251 = .ok (.iadd, 1) := by decide +kernel
theorem dL_law_252 : decode cL_law 252 = .ok (.iaload, 1) := by decide +kernel
theorem dL_law_253 : decode cL_law 253 = .ok (.invokevirtual 27, 3) := by decide +kernel
theorem dL_law_256 : decode cL_law 256 = .ok (.if_icmp .eq 668, 3) := by decide +kernel
theorem dL_law_259 : decode cL_law 259 = .ok (.iconst 0, 1) := by decide +kernel
theorem dL_law_260 : decode cL_law 260 = .ok (.ireturn, 1) := by decide +kernel
theorem dL_law_261 : decode cL_law 261 = .ok (.aload_n 1, 1) := by decide +kernel
theorem dL_law_262 : decode cL_law 262 = .ok (.aload_n 0, 1) := by decide +kernel
theorem dL_law_263 : decode cL_law 263 = .ok (.iload_n 3, 1) := by decide +kernel
theorem dL_law_264 : decode cL_law 264 = .ok (.iconst 1, 1) := by decide +kernel
theorem dL_law_265 : decode cL_law 265 = .ok (.iadd, 1) := by decide +kernel
theorem dL_law_266 : decode cL_law 266 = .ok (.iaload, 1) := by decide +kernel
theorem dL_law_267 : decode cL_law 267 = .ok (.aload_n 0, 1) := by decide +kernel
theorem dL_law_268 : decode cL_law 268 = .ok (.iload_n 3, 1) := by decide +kernel
theorem dL_law_269 : decode cL_law 269 = .ok (.iconst 2, 1) := by decide +kernel
theorem dL_law_270 : decode cL_law 270 = .ok (.iadd, 1) := by decide +kernel
theorem dL_law_271 : decode cL_law 271 = .ok (.iaload, 1) := by decide +kernel
theorem dL_law_272 : decode cL_law 272 = .ok (.invokevirtual 28, 3) := by decide +kernel
theorem dL_law_275 : decode cL_law 275 = .ok (.aload_n 2, 1) := by decide +kernel
theorem dL_law_276 : decode cL_law 276 = .ok (.aload_n 0, 1) := by decide +kernel
theorem dL_law_277 : decode cL_law 277 = .ok (.iload_n 3, 1) := by decide +kernel
theorem dL_law_278 : decode cL_law 278 = .ok (.iconst 1, 1) := by decide +kernel
theorem dL_law_279 : decode cL_law 279 = .ok (.iadd, 1) := by decide +kernel
theorem dL_law_280 : decode cL_law 280 = .ok (.iaload, 1) := by decide +kernel
theorem dL_law_281 : decode cL_law 281 = .ok (.aload_n 0, 1) := by decide +kernel
theorem dL_law_282 : decode cL_law 282 = .ok (.iload_n 3, 1) := by decide +kernel
theorem dL_law_283 : decode cL_law 283 = .ok (.iconst 2, 1) := by decide +kernel
theorem dL_law_284 : decode cL_law 284 = .ok (.iadd, 1) := by decide +kernel
theorem dL_law_285 : decode cL_law 285 = .ok (.iaload, 1) := by decide +kernel
theorem dL_law_286 : decode cL_law 286 = .ok (.invokevirtual 31, 3) := by decide +kernel
theorem dL_law_289 : decode cL_law 289 = .ok (.if_icmp .eq 635, 3) := by decide +kernel
theorem dL_law_292 : decode cL_law 292 = .ok (.iconst 0, 1) := by decide +kernel
theorem dL_law_293 : decode cL_law 293 = .ok (.ireturn, 1) := by decide +kernel
theorem dL_law_294 : decode cL_law 294 = .ok (.aload_n 1, 1) := by decide +kernel
theorem dL_law_295 : decode cL_law 295 = .ok (.aload_n 0, 1) := by decide +kernel
theorem dL_law_296 : decode cL_law 296 = .ok (.iload_n 3, 1) := by decide +kernel
theorem dL_law_297 : decode cL_law 297 = .ok (.iconst 1, 1) := by decide +kernel
theorem dL_law_298 : decode cL_law 298 = .ok (.iadd, 1) := by decide +kernel
theorem dL_law_299 : decode cL_law 299 = .ok (.iaload, 1) := by decide +kernel
theorem dL_law_300 : decode cL_law 300 = .ok (.invokevirtual 32, 3) := by decide +kernel
theorem dL_law_303 : decode cL_law 303 = .ok (.aload_n 2, 1) := by decide +kernel
theorem dL_law_304 : decode cL_law 304 = .ok (.aload_n 0, 1) := by decide +kernel
theorem dL_law_305 : decode cL_law 305 = .ok (.iload_n 3, 1) := by decide +kernel
theorem dL_law_306 : decode cL_law 306 = .ok (.iconst 1, 1) := by decide +kernel
theorem dL_law_307 : decode cL_law 307 = .ok (.iadd, 1) := by decide +kernel
theorem dL_law_308 : decode cL_law 308 = .ok (.iaload, 1) := by decide +kernel
theorem dL_law_309 : decode cL_law 309 = .ok (.invokevirtual 35, 3) := by decide +kernel
theorem dL_law_312 : decode cL_law 312 = .ok (.if_icmp .eq 612, 3) := by decide +kernel
theorem dL_law_315 : decode cL_law 315 = .ok (.iconst 0, 1) := by decide +kernel
theorem dL_law_316 : decode cL_law 316 = .ok (.ireturn, 1) := by decide +kernel
theorem dL_law_317 : decode cL_law 317 = .ok (.aload_n 1, 1) := by decide +kernel
theorem dL_law_318 : decode cL_law 318 = .ok (.aload_n 0, 1) := by decide +kernel
theorem dL_law_319 : decode cL_law 319 = .ok (.iload_n 3, 1) := by decide +kernel
theorem dL_law_320 : decode cL_law 320 = .ok (.iconst 1, 1) := by decide +kernel
theorem dL_law_321 : decode cL_law 321 = .ok (.iadd, 1) := by decide +kernel
theorem dL_law_322 : decode cL_law 322 = .ok (.iaload, 1) := by decide +kernel
theorem dL_law_323 : decode cL_law 323 = .ok (.aload_n 0, 1) := by decide +kernel
theorem dL_law_324 : decode cL_law 324 = .ok (.iload_n 3, 1) := by decide +kernel
theorem dL_law_325 : decode cL_law 325 = .ok (.iconst 2, 1) := by decide +kernel
theorem dL_law_326 : decode cL_law 326 = .ok (.iadd, 1) := by decide +kernel
theorem dL_law_327 : decode cL_law 327 = .ok (.iaload, 1) := by decide +kernel
theorem dL_law_328 : decode cL_law 328 = .ok (.ifCond .eq 7, 3) := by decide +kernel
theorem dL_law_331 : decode cL_law 331 = .ok (.iconst 1, 1) := by decide +kernel
theorem dL_law_332 : decode cL_law 332 = .ok (.goto 4, 3) := by decide +kernel
theorem dL_law_335 : decode cL_law 335 = .ok (.iconst 0, 1) := by decide +kernel
theorem dL_law_336 : decode cL_law 336 = .ok (.invokevirtual 36, 3) := by decide +kernel
theorem dL_law_339 : decode cL_law 339 = .ok (.aload_n 2, 1) := by decide +kernel
theorem dL_law_340 : decode cL_law 340 = .ok (.aload_n 0, 1) := by decide +kernel
theorem dL_law_341 : decode cL_law 341 = .ok (.iload_n 3, 1) := by decide +kernel
theorem dL_law_342 : decode cL_law 342 = .ok (.iconst 1, 1) := by decide +kernel
theorem dL_law_343 : decode cL_law 343 = .ok (.iadd, 1) := by decide +kernel
theorem dL_law_344 : decode cL_law 344 = .ok (.iaload, 1) := by decide +kernel
theorem dL_law_345 : decode cL_law 345 = .ok (.aload_n 0, 1) := by decide +kernel
theorem dL_law_346 : decode cL_law 346 = .ok (.iload_n 3, 1) := by decide +kernel
theorem dL_law_347 : decode cL_law 347 = .ok (.iconst 2, 1) := by decide +kernel
theorem dL_law_348 : decode cL_law 348 = .ok (.iadd, 1) := by decide +kernel
theorem dL_law_349 : decode cL_law 349 = .ok (.iaload, 1) := by decide +kernel
theorem dL_law_350 : decode cL_law 350 = .ok (.ifCond .eq 7, 3) := by decide +kernel
theorem dL_law_353 : decode cL_law 353 = .ok (.iconst 1, 1) := by decide +kernel
theorem dL_law_354 : decode cL_law 354 = .ok (.goto 4, 3) := by decide +kernel
theorem dL_law_357 : decode cL_law 357 = .ok (.iconst 0, 1) := by decide +kernel
theorem dL_law_358 : decode cL_law 358 = .ok (.invokevirtual 40, 3) := by decide +kernel
theorem dL_law_361 : decode cL_law 361 = .ok (.if_icmp .eq 563, 3) := by decide +kernel
theorem dL_law_364 : decode cL_law 364 = .ok (.iconst 0, 1) := by decide +kernel
theorem dL_law_365 : decode cL_law 365 = .ok (.ireturn, 1) := by decide +kernel
theorem dL_law_366 : decode cL_law 366 = .ok (.aload_n 1, 1) := by decide +kernel
theorem dL_law_367 : decode cL_law 367 = .ok (.aload_n 0, 1) := by decide +kernel
theorem dL_law_368 : decode cL_law 368 = .ok (.iload_n 3, 1) := by decide +kernel
theorem dL_law_369 : decode cL_law 369 = .ok (.iconst 1, 1) := by decide +kernel
theorem dL_law_370 : decode cL_law 370 = .ok (.iadd, 1) := by decide +kernel
theorem dL_law_371 : decode cL_law 371 = .ok (.iaload, 1) := by decide +kernel
theorem dL_law_372 : decode cL_law 372 = .ok (.invokevirtual 41, 3) := by decide +kernel
theorem dL_law_375 : decode cL_law 375 = .ok (.aload_n 2, 1) := by decide +kernel
theorem dL_law_376 : decode cL_law 376 = .ok (.aload_n 0, 1) := by decide +kernel
theorem dL_law_377 : decode cL_law 377 = .ok (.iload_n 3, 1) := by decide +kernel
theorem dL_law_378 : decode cL_law 378 = .ok (.iconst 1, 1) := by decide +kernel
theorem dL_law_379 : decode cL_law 379 = .ok (.iadd, 1) := by decide +kernel
theorem dL_law_380 : decode cL_law 380 = .ok (.iaload, 1) := by decide +kernel
theorem dL_law_381 : decode cL_law 381 = .ok (.invokevirtual 44, 3) := by decide +kernel
theorem dL_law_384 : decode cL_law 384 = .ok (.if_icmp .eq 540, 3) := by decide +kernel
theorem dL_law_387 : decode cL_law 387 = .ok (.iconst 0, 1) := by decide +kernel
theorem dL_law_388 : decode cL_law 388 = .ok (.ireturn, 1) := by decide +kernel
theorem dL_law_389 : decode cL_law 389 = .ok (.aload_n 1, 1) := by decide +kernel
theorem dL_law_390 : decode cL_law 390 = .ok (.aload_n 0, 1) := by decide +kernel
theorem dL_law_391 : decode cL_law 391 = .ok (.iload_n 3, 1) := by decide +kernel
theorem dL_law_392 : decode cL_law 392 = .ok (.iconst 1, 1) := by decide +kernel
theorem dL_law_393 : decode cL_law 393 = .ok (.iadd, 1) := by decide +kernel
theorem dL_law_394 : decode cL_law 394 = .ok (.iaload, 1) := by decide +kernel
theorem dL_law_395 : decode cL_law 395 = .ok (.aload_n 0, 1) := by decide +kernel
theorem dL_law_396 : decode cL_law 396 = .ok (.iload_n 3, 1) := by decide +kernel
theorem dL_law_397 : decode cL_law 397 = .ok (.iconst 2, 1) := by decide +kernel
theorem dL_law_398 : decode cL_law 398 = .ok (.iadd, 1) := by decide +kernel
theorem dL_law_399 : decode cL_law 399 = .ok (.iaload, 1) := by decide +kernel
theorem dL_law_400 : decode cL_law 400 = .ok (.aload_n 0, 1) := by decide +kernel
theorem dL_law_401 : decode cL_law 401 = .ok (.iload_n 3, 1) := by decide +kernel
theorem dL_law_402 : decode cL_law 402 = .ok (.iconst 3, 1) := by decide +kernel
theorem dL_law_403 : decode cL_law 403 = .ok (.iadd, 1) := by decide +kernel
theorem dL_law_404 : decode cL_law 404 = .ok (.iaload, 1) := by decide +kernel
theorem dL_law_405 : decode cL_law 405 = .ok (.ifCond .eq 7, 3) := by decide +kernel
theorem dL_law_408 : decode cL_law 408 = .ok (.iconst 1, 1) := by decide +kernel
theorem dL_law_409 : decode cL_law 409 = .ok (.goto 4, 3) := by decide +kernel
theorem dL_law_412 : decode cL_law 412 = .ok (.iconst 0, 1) := by decide +kernel
theorem dL_law_413 : decode cL_law 413 = .ok (.invokevirtual 45, 3) := by decide +kernel
theorem dL_law_416 : decode cL_law 416 = .ok (.aload_n 2, 1) := by decide +kernel
theorem dL_law_417 : decode cL_law 417 = .ok (.aload_n 0, 1) := by decide +kernel
theorem dL_law_418 : decode cL_law 418 = .ok (.iload_n 3, 1) := by decide +kernel
theorem dL_law_419 : decode cL_law 419 = .ok (.iconst 1, 1) := by decide +kernel
theorem dL_law_420 : decode cL_law 420 = .ok (.iadd, 1) := by decide +kernel
theorem dL_law_421 : decode cL_law 421 = .ok (.iaload, 1) := by decide +kernel
theorem dL_law_422 : decode cL_law 422 = .ok (.aload_n 0, 1) := by decide +kernel
theorem dL_law_423 : decode cL_law 423 = .ok (.iload_n 3, 1) := by decide +kernel
theorem dL_law_424 : decode cL_law 424 = .ok (.iconst 2, 1) := by decide +kernel
theorem dL_law_425 : decode cL_law 425 = .ok (.iadd, 1) := by decide +kernel
theorem dL_law_426 : decode cL_law 426 = .ok (.iaload, 1) := by decide +kernel
theorem dL_law_427 : decode cL_law 427 = .ok (.aload_n 0, 1) := by decide +kernel
theorem dL_law_428 : decode cL_law 428 = .ok (.iload_n 3, 1) := by decide +kernel
theorem dL_law_429 : decode cL_law 429 = .ok (.iconst 3, 1) := by decide +kernel
theorem dL_law_430 : decode cL_law 430 = .ok (.iadd, 1) := by decide +kernel
theorem dL_law_431 : decode cL_law 431 = .ok (.iaload, 1) := by decide +kernel
theorem dL_law_432 : decode cL_law 432 = .ok (.ifCond .eq 7, 3) := by decide +kernel
theorem dL_law_435 : decode cL_law 435 = .ok (.iconst 1, 1) := by decide +kernel
theorem dL_law_436 : decode cL_law 436 = .ok (.goto 4, 3) := by decide +kernel
theorem dL_law_439 : decode cL_law 439 = .ok (.iconst 0, 1) := by decide +kernel
theorem dL_law_440 : decode cL_law 440 = .ok (.invokevirtual 49, 3) := by decide +kernel
theorem dL_law_443 : decode cL_law 443 = .ok (.if_icmp .eq 481, 3) := by decide +kernel
theorem dL_law_446 : decode cL_law 446 = .ok (.iconst 0, 1) := by decide +kernel
theorem dL_law_447 : decode cL_law 447 = .ok (.ireturn, 1) := by decide +kernel
theorem dL_law_448 : decode cL_law 448 = .ok (.aload_n 1, 1) := by decide +kernel
theorem dL_law_449 : decode cL_law 449 = .ok (.aload_n 0, 1) := by decide +kernel
theorem dL_law_450 : decode cL_law 450 = .ok (.iload_n 3, 1) := by decide +kernel
theorem dL_law_451 : decode cL_law 451 = .ok (.iconst 1, 1) := by decide +kernel
theorem dL_law_452 : decode cL_law 452 = .ok (.iadd, 1) := by decide +kernel
theorem dL_law_453 : decode cL_law 453 = .ok (.iaload, 1) := by decide +kernel
theorem dL_law_454 : decode cL_law 454 = .ok (.aload_n 0, 1) := by decide +kernel
theorem dL_law_455 : decode cL_law 455 = .ok (.iload_n 3, 1) := by decide +kernel
theorem dL_law_456 : decode cL_law 456 = .ok (.iconst 2, 1) := by decide +kernel
theorem dL_law_457 : decode cL_law 457 = .ok (.iadd, 1) := by decide +kernel
theorem dL_law_458 : decode cL_law 458 = .ok (.iaload, 1) := by decide +kernel
theorem dL_law_459 : decode cL_law 459 = .ok (.invokevirtual 50, 3) := by decide +kernel
theorem dL_law_462 : decode cL_law 462 = .ok (.aload_n 2, 1) := by decide +kernel
theorem dL_law_463 : decode cL_law 463 = .ok (.aload_n 0, 1) := by decide +kernel
theorem dL_law_464 : decode cL_law 464 = .ok (.iload_n 3, 1) := by decide +kernel
theorem dL_law_465 : decode cL_law 465 = .ok (.iconst 1, 1) := by decide +kernel
theorem dL_law_466 : decode cL_law 466 = .ok (.iadd, 1) := by decide +kernel
theorem dL_law_467 : decode cL_law 467 = .ok (.iaload, 1) := by decide +kernel
theorem dL_law_468 : decode cL_law 468 = .ok (.aload_n 0, 1) := by decide +kernel
theorem dL_law_469 : decode cL_law 469 = .ok (.iload_n 3, 1) := by decide +kernel
theorem dL_law_470 : decode cL_law 470 = .ok (.iconst 2, 1) := by decide +kernel
theorem dL_law_471 : decode cL_law 471 = .ok (.iadd, 1) := by decide +kernel
theorem dL_law_472 : decode cL_law 472 = .ok (.iaload, 1) := by decide +kernel
theorem dL_law_473 : decode cL_law 473 = .ok (.invokevirtual 53, 3) := by decide +kernel
theorem dL_law_476 : decode cL_law 476 = .ok (.if_icmp .eq 448, 3) := by decide +kernel
theorem dL_law_479 : decode cL_law 479 = .ok (.iconst 0, 1) := by decide +kernel
theorem dL_law_480 : decode cL_law 480 = .ok (.ireturn, 1) := by decide +kernel
theorem dL_law_481 : decode cL_law 481 = .ok (.aload_n 1, 1) := by decide +kernel
theorem dL_law_482 : decode cL_law 482 = .ok (.aload_n 0, 1) := by decide +kernel
theorem dL_law_483 : decode cL_law 483 = .ok (.iload_n 3, 1) := by decide +kernel
theorem dL_law_484 : decode cL_law 484 = .ok (.iconst 1, 1) := by decide +kernel
theorem dL_law_485 : decode cL_law 485 = .ok (.iadd, 1) := by decide +kernel
theorem dL_law_486 : decode cL_law 486 = .ok (.iaload, 1) := by decide +kernel
theorem dL_law_487 : decode cL_law 487 = .ok (.aload_n 0, 1) := by decide +kernel
theorem dL_law_488 : decode cL_law 488 = .ok (.iload_n 3, 1) := by decide +kernel
theorem dL_law_489 : decode cL_law 489 = .ok (.iconst 2, 1) := by decide +kernel
theorem dL_law_490 : decode cL_law 490 = .ok (.iadd, 1) := by decide +kernel
theorem dL_law_491 : decode cL_law 491 = .ok (.iaload, 1) := by decide +kernel
theorem dL_law_492 : decode cL_law 492 = .ok (.invokevirtual 54, 3) := by decide +kernel
theorem dL_law_495 : decode cL_law 495 = .ok (.aload_n 2, 1) := by decide +kernel
theorem dL_law_496 : decode cL_law 496 = .ok (.aload_n 0, 1) := by decide +kernel
theorem dL_law_497 : decode cL_law 497 = .ok (.iload_n 3, 1) := by decide +kernel
theorem dL_law_498 : decode cL_law 498 = .ok (.iconst 1, 1) := by decide +kernel
theorem dL_law_499 : decode cL_law 499 = .ok (.iadd, 1) := by decide +kernel
theorem dL_law_500 : decode cL_law 500 = .ok (.iaload, 1) := by decide +kernel
theorem dL_law_501 : decode cL_law 501 = .ok (.aload_n 0, 1) := by decide +kernel
theorem dL_law_502 : decode cL_law 502 = .ok (.iload_n 3, 1) := by decide +kernel
theorem dL_law_503 : decode cL_law 503 = .ok (.iconst 2, 1) := by decide +kernel
theorem dL_law_504 : decode cL_law 504 = .ok (.iadd, 1) := by decide +kernel
theorem dL_law_505 : decode cL_law 505 = .ok (.iaload, 1) := by decide +kernel
theorem dL_law_506 : decode cL_law 506 = .ok (.invokevirtual 57, 3) := by decide +kernel
theorem dL_law_509 : decode cL_law 509 = .ok (.if_icmp .eq 415, 3) := by decide +kernel
theorem dL_law_512 : decode cL_law 512 = .ok (.iconst 0, 1) := by decide +kernel
theorem dL_law_513 : decode cL_law 513 = .ok (.ireturn, 1) := by decide +kernel
theorem dL_law_514 : decode cL_law 514 = .ok (.aload_n 1, 1) := by decide +kernel
theorem dL_law_515 : decode cL_law 515 = .ok (.aload_n 0, 1) := by decide +kernel
theorem dL_law_516 : decode cL_law 516 = .ok (.iload_n 3, 1) := by decide +kernel
theorem dL_law_517 : decode cL_law 517 = .ok (.iconst 1, 1) := by decide +kernel
theorem dL_law_518 : decode cL_law 518 = .ok (.iadd, 1) := by decide +kernel
theorem dL_law_519 : decode cL_law 519 = .ok (.iaload, 1) := by decide +kernel
theorem dL_law_520 : decode cL_law 520 = .ok (.invokevirtual 58, 3) := by decide +kernel
theorem dL_law_523 : decode cL_law 523 = .ok (.aload_n 2, 1) := by decide +kernel
theorem dL_law_524 : decode cL_law 524 = .ok (.aload_n 0, 1) := by decide +kernel
theorem dL_law_525 : decode cL_law 525 = .ok (.iload_n 3, 1) := by decide +kernel
theorem dL_law_526 : decode cL_law 526 = .ok (.iconst 1, 1) := by decide +kernel
theorem dL_law_527 : decode cL_law 527 = .ok (.iadd, 1) := by decide +kernel
theorem dL_law_528 : decode cL_law 528 = .ok (.iaload, 1) := by decide +kernel
theorem dL_law_529 : decode cL_law 529 = .ok (.invokevirtual 61, 3) := by decide +kernel
theorem dL_law_532 : decode cL_law 532 = .ok (.if_icmp .eq 392, 3) := by decide +kernel
theorem dL_law_535 : decode cL_law 535 = .ok (.iconst 0, 1) := by decide +kernel
theorem dL_law_536 : decode cL_law 536 = .ok (.ireturn, 1) := by decide +kernel
theorem dL_law_537 : decode cL_law 537 = .ok (.aload_n 1, 1) := by decide +kernel
theorem dL_law_538 : decode cL_law 538 = .ok (.aload_n 0, 1) := by decide +kernel
theorem dL_law_539 : decode cL_law 539 = .ok (.iload_n 3, 1) := by decide +kernel
theorem dL_law_540 : decode cL_law 540 = .ok (.iconst 1, 1) := by decide +kernel
theorem dL_law_541 : decode cL_law 541 = .ok (.iadd, 1) := by decide +kernel
theorem dL_law_542 : decode cL_law 542 = .ok (.iaload, 1) := by decide +kernel
theorem dL_law_543 : decode cL_law 543 = .ok (.invokevirtual 62, 3) := by decide +kernel
theorem dL_law_546 : decode cL_law 546 = .ok (.aload_n 2, 1) := by decide +kernel
theorem dL_law_547 : decode cL_law 547 = .ok (.aload_n 0, 1) := by decide +kernel
theorem dL_law_548 : decode cL_law 548 = .ok (.iload_n 3, 1) := by decide +kernel
theorem dL_law_549 : decode cL_law 549 = .ok (.iconst 1, 1) := by decide +kernel
theorem dL_law_550 : decode cL_law 550 = .ok (.iadd, 1) := by decide +kernel
theorem dL_law_551 : decode cL_law 551 = .ok (.iaload, 1) := by decide +kernel
theorem dL_law_552 : decode cL_law 552 = .ok (.invokevirtual 65, 3) := by decide +kernel
theorem dL_law_555 : decode cL_law 555 = .ok (.if_icmp .eq 369, 3) := by decide +kernel
theorem dL_law_558 : decode cL_law 558 = .ok (.iconst 0, 1) := by decide +kernel
theorem dL_law_559 : decode cL_law 559 = .ok (.ireturn, 1) := by decide +kernel
theorem dL_law_560 : decode cL_law 560 = .ok (.aload_n 1, 1) := by decide +kernel
theorem dL_law_561 : decode cL_law 561 = .ok (.aload_n 0, 1) := by decide +kernel
theorem dL_law_562 : decode cL_law 562 = .ok (.iload_n 3, 1) := by decide +kernel
theorem dL_law_563 : decode cL_law 563 = .ok (.iconst 1, 1) := by decide +kernel
theorem dL_law_564 : decode cL_law 564 = .ok (.iadd, 1) := by decide +kernel
theorem dL_law_565 : decode cL_law 565 = .ok (.iaload, 1) := by decide +kernel
theorem dL_law_566 : decode cL_law 566 = .ok (.invokevirtual 66, 3) := by decide +kernel
theorem dL_law_569 : decode cL_law 569 = .ok (.aload_n 2, 1) := by decide +kernel
theorem dL_law_570 : decode cL_law 570 = .ok (.aload_n 0, 1) := by decide +kernel
theorem dL_law_571 : decode cL_law 571 = .ok (.iload_n 3, 1) := by decide +kernel
theorem dL_law_572 : decode cL_law 572 = .ok (.iconst 1, 1) := by decide +kernel
theorem dL_law_573 : decode cL_law 573 = .ok (.iadd, 1) := by decide +kernel
theorem dL_law_574 : decode cL_law 574 = .ok (.iaload, 1) := by decide +kernel
theorem dL_law_575 : decode cL_law 575 = .ok (.invokevirtual 69, 3) := by decide +kernel
theorem dL_law_578 : decode cL_law 578 = .ok (.if_icmp .eq 346, 3) := by decide +kernel
theorem dL_law_581 : decode cL_law 581 = .ok (.iconst 0, 1) := by decide +kernel
theorem dL_law_582 : decode cL_law 582 = .ok (.ireturn, 1) := by decide +kernel
theorem dL_law_583 : decode cL_law 583 = .ok (.aload_n 1, 1) := by decide +kernel
theorem dL_law_584 : decode cL_law 584 = .ok (.aload_n 0, 1) := by decide +kernel
theorem dL_law_585 : decode cL_law 585 = .ok (.iload_n 3, 1) := by decide +kernel
theorem dL_law_586 : decode cL_law 586 = .ok (.iconst 1, 1) := by decide +kernel
theorem dL_law_587 : decode cL_law 587 = .ok (.iadd, 1) := by decide +kernel
theorem dL_law_588 : decode cL_law 588 = .ok (.iaload, 1) := by decide +kernel
theorem dL_law_589 : decode cL_law 589 = .ok (.invokevirtual 70, 3) := by decide +kernel
theorem dL_law_592 : decode cL_law 592 = .ok (.aload_n 2, 1) := by decide +kernel
theorem dL_law_593 : decode cL_law 593 = .ok (.aload_n 0, 1) := by decide +kernel
theorem dL_law_594 : decode cL_law 594 = .ok (.iload_n 3, 1) := by decide +kernel
theorem dL_law_595 : decode cL_law 595 = .ok (.iconst 1, 1) := by decide +kernel
theorem dL_law_596 : decode cL_law 596 = .ok (.iadd, 1) := by decide +kernel
theorem dL_law_597 : decode cL_law 597 = .ok (.iaload, 1) := by decide +kernel
theorem dL_law_598 : decode cL_law 598 = .ok (.invokevirtual 73, 3) := by decide +kernel
theorem dL_law_601 : decode cL_law 601 = .ok (.if_icmp .eq 323, 3) := by decide +kernel
theorem dL_law_604 : decode cL_law 604 = .ok (.iconst 0, 1) := by decide +kernel
theorem dL_law_605 : decode cL_law 605 = .ok (.ireturn, 1) := by decide +kernel
theorem dL_law_606 : decode cL_law 606 = .ok (.aload_n 1, 1) := by decide +kernel
theorem dL_law_607 : decode cL_law 607 = .ok (.aload_n 0, 1) := by decide +kernel
theorem dL_law_608 : decode cL_law 608 = .ok (.iload_n 3, 1) := by decide +kernel
theorem dL_law_609 : decode cL_law 609 = .ok (.iconst 1, 1) := by decide +kernel
theorem dL_law_610 : decode cL_law 610 = .ok (.iadd, 1) := by decide +kernel
theorem dL_law_611 : decode cL_law 611 = .ok (.iaload, 1) := by decide +kernel
theorem dL_law_612 : decode cL_law 612 = .ok (.i2c, 1) := by decide +kernel
theorem dL_law_613 : decode cL_law 613 = .ok (.invokevirtual 74, 3) := by decide +kernel
theorem dL_law_616 : decode cL_law 616 = .ok (.aload_n 2, 1) := by decide +kernel
theorem dL_law_617 : decode cL_law 617 = .ok (.aload_n 0, 1) := by decide +kernel
theorem dL_law_618 : decode cL_law 618 = .ok (.iload_n 3, 1) := by decide +kernel
theorem dL_law_619 : decode cL_law 619 = .ok (.iconst 1, 1) := by decide +kernel
theorem dL_law_620 : decode cL_law 620 = .ok (.iadd, 1) := by decide +kernel
theorem dL_law_621 : decode cL_law 621 = .ok (.iaload, 1) := by decide +kernel
theorem dL_law_622 : decode cL_law 622 = .ok (.i2c, 1) := by decide +kernel
theorem dL_law_623 : decode cL_law 623 = .ok (.invokevirtual 78, 3) := by decide +kernel
theorem dL_law_626 : decode cL_law 626 = .ok (.if_icmp .eq 298, 3) := by decide +kernel
theorem dL_law_629 : decode cL_law 629 = .ok (.iconst 0, 1) := by decide +kernel
theorem dL_law_630 : decode cL_law 630 = .ok (.ireturn, 1) := by decide +kernel
theorem dL_law_631 : decode cL_law 631 = .ok (.aload_n 1, 1) := by decide +kernel
theorem dL_law_632 : decode cL_law 632 = .ok (.invokevirtual 79, 3) := by decide +kernel
theorem dL_law_635 : decode cL_law 635 = .ok (.aload_n 2, 1) := by decide +kernel
theorem dL_law_636 : decode cL_law 636 = .ok (.invokevirtual 83, 3) := by decide +kernel
theorem dL_law_639 : decode cL_law 639 = .ok (.if_icmp .eq 285, 3) := by decide +kernel
theorem dL_law_642 : decode cL_law 642 = .ok (.iconst 0, 1) := by decide +kernel
theorem dL_law_643 : decode cL_law 643 = .ok (.ireturn, 1) := by decide +kernel
theorem dL_law_644 : decode cL_law 644 = .ok (.aload_n 1, 1) := by decide +kernel
theorem dL_law_645 : decode cL_law 645 = .ok (.invokevirtual 84, 3) := by decide +kernel
theorem dL_law_648 : decode cL_law 648 = .ok (.aload_n 2, 1) := by decide +kernel
theorem dL_law_649 : decode cL_law 649 = .ok (.invokevirtual 87, 3) := by decide +kernel
theorem dL_law_652 : decode cL_law 652 = .ok (.if_icmp .eq 272, 3) := by decide +kernel
theorem dL_law_655 : decode cL_law 655 = .ok (.iconst 0, 1) := by decide +kernel
theorem dL_law_656 : decode cL_law 656 = .ok (.ireturn, 1) := by decide +kernel
theorem dL_law_657 : decode cL_law 657 = .ok (.aload_n 1, 1) := by decide +kernel
theorem dL_law_658 : decode cL_law 658 = .ok (.invokevirtual 88, 3) := by decide +kernel
theorem dL_law_661 : decode cL_law 661 = .ok (.aload_n 2, 1) := by decide +kernel
theorem dL_law_662 : decode cL_law 662 = .ok (.invokevirtual 91, 3) := by decide +kernel
theorem dL_law_665 : decode cL_law 665 = .ok (.if_icmp .eq 259, 3) := by decide +kernel
theorem dL_law_668 : decode cL_law 668 = .ok (.iconst 0, 1) := by decide +kernel
theorem dL_law_669 : decode cL_law 669 = .ok (.ireturn, 1) := by decide +kernel
theorem dL_law_670 : decode cL_law 670 = .ok (.aload_n 1, 1) := by decide +kernel
theorem dL_law_671 : decode cL_law 671 = .ok (.aload_n 0, 1) := by decide +kernel
theorem dL_law_672 : decode cL_law 672 = .ok (.iload_n 3, 1) := by decide +kernel
theorem dL_law_673 : decode cL_law 673 = .ok (.iconst 1, 1) := by decide +kernel
theorem dL_law_674 : decode cL_law 674 = .ok (.iadd, 1) := by decide +kernel
theorem dL_law_675 : decode cL_law 675 = .ok (.iaload, 1) := by decide +kernel
theorem dL_law_676 : decode cL_law 676 = .ok (.aload_n 0, 1) := by decide +kernel
theorem dL_law_677 : decode cL_law 677 = .ok (.iload_n 3, 1) := by decide +kernel
theorem dL_law_678 : decode cL_law 678 = .ok (.iconst 2, 1) := by decide +kernel
theorem dL_law_679 : decode cL_law 679 = .ok (.iadd, 1) := by decide +kernel
theorem dL_law_680 : decode cL_law 680 = .ok (.iaload, 1) := by decide +kernel
theorem dL_law_681 : decode cL_law 681 = .ok (.invokevirtual 92, 3) := by decide +kernel
theorem dL_law_684 : decode cL_law 684 = .ok (.aload_n 2, 1) := by decide +kernel
theorem dL_law_685 : decode cL_law 685 = .ok (.aload_n 0, 1) := by decide +kernel
theorem dL_law_686 : decode cL_law 686 = .ok (.iload_n 3, 1) := by decide +kernel
theorem dL_law_687 : decode cL_law 687 = .ok (.iconst 1, 1) := by decide +kernel
theorem dL_law_688 : decode cL_law 688 = .ok (.iadd, 1) := by decide +kernel
theorem dL_law_689 : decode cL_law 689 = .ok (.iaload, 1) := by decide +kernel
theorem dL_law_690 : decode cL_law 690 = .ok (.aload_n 0, 1) := by decide +kernel
theorem dL_law_691 : decode cL_law 691 = .ok (.iload_n 3, 1) := by decide +kernel
theorem dL_law_692 : decode cL_law 692 = .ok (.iconst 2, 1) := by decide +kernel
theorem dL_law_693 : decode cL_law 693 = .ok (.iadd, 1) := by decide +kernel
theorem dL_law_694 : decode cL_law 694 = .ok (.iaload, 1) := by decide +kernel
theorem dL_law_695 : decode cL_law 695 = .ok (.invokevirtual 95, 3) := by decide +kernel
theorem dL_law_698 : decode cL_law 698 = .ok (.if_icmp .eq 226, 3) := by decide +kernel
theorem dL_law_701 : decode cL_law 701 = .ok (.iconst 0, 1) := by decide +kernel
theorem dL_law_702 : decode cL_law 702 = .ok (.ireturn, 1) := by decide +kernel
theorem dL_law_703 : decode cL_law 703 = .ok (.aload_n 1, 1) := by decide +kernel
theorem dL_law_704 : decode cL_law 704 = .ok (.aload_n 0, 1) := by decide +kernel
theorem dL_law_705 : decode cL_law 705 = .ok (.iload_n 3, 1) := by decide +kernel
theorem dL_law_706 : decode cL_law 706 = .ok (.iconst 1, 1) := by decide +kernel
theorem dL_law_707 : decode cL_law 707 = .ok (.iadd, 1) := by decide +kernel
theorem dL_law_708 : decode cL_law 708 = .ok (.iaload, 1) := by decide +kernel
theorem dL_law_709 : decode cL_law 709 = .ok (.aload_n 0, 1) := by decide +kernel
theorem dL_law_710 : decode cL_law 710 = .ok (.iload_n 3, 1) := by decide +kernel
theorem dL_law_711 : decode cL_law 711 = .ok (.iconst 2, 1) := by decide +kernel
theorem dL_law_712 : decode cL_law 712 = .ok (.iadd, 1) := by decide +kernel
theorem dL_law_713 : decode cL_law 713 = .ok (.iaload, 1) := by decide +kernel
theorem dL_law_714 : decode cL_law 714 = .ok (.aload_n 0, 1) := by decide +kernel
theorem dL_law_715 : decode cL_law 715 = .ok (.iload_n 3, 1) := by decide +kernel
theorem dL_law_716 : decode cL_law 716 = .ok (.iconst 3, 1) := by decide +kernel
theorem dL_law_717 : decode cL_law 717 = .ok (.iadd, 1) := by decide +kernel
theorem dL_law_718 : decode cL_law 718 = .ok (.iaload, 1) := by decide +kernel
theorem dL_law_719 : decode cL_law 719 = .ok (.invokevirtual 96, 3) := by decide +kernel
theorem dL_law_722 : decode cL_law 722 = .ok (.aload_n 2, 1) := by decide +kernel
theorem dL_law_723 : decode cL_law 723 = .ok (.aload_n 0, 1) := by decide +kernel
theorem dL_law_724 : decode cL_law 724 = .ok (.iload_n 3, 1) := by decide +kernel
theorem dL_law_725 : decode cL_law 725 = .ok (.iconst 1, 1) := by decide +kernel
theorem dL_law_726 : decode cL_law 726 = .ok (.iadd, 1) := by decide +kernel
theorem dL_law_727 : decode cL_law 727 = .ok (.iaload, 1) := by decide +kernel
theorem dL_law_728 : decode cL_law 728 = .ok (.aload_n 0, 1) := by decide +kernel
theorem dL_law_729 : decode cL_law 729 = .ok (.iload_n 3, 1) := by decide +kernel
theorem dL_law_730 : decode cL_law 730 = .ok (.iconst 2, 1) := by decide +kernel
theorem dL_law_731 : decode cL_law 731 = .ok (.iadd, 1) := by decide +kernel
theorem dL_law_732 : decode cL_law 732 = .ok (.iaload, 1) := by decide +kernel
theorem dL_law_733 : decode cL_law 733 = .ok (.aload_n 0, 1) := by decide +kernel
theorem dL_law_734 : decode cL_law 734 = .ok (.iload_n 3, 1) := by decide +kernel
theorem dL_law_735 : decode cL_law 735 = .ok (.iconst 3, 1) := by decide +kernel
theorem dL_law_736 : decode cL_law 736 = .ok (.iadd, 1) := by decide +kernel
theorem dL_law_737 : decode cL_law 737 = .ok (.iaload, 1) := by decide +kernel
theorem dL_law_738 : decode cL_law 738 = .ok (.invokevirtual 100, 3) := by decide +kernel
theorem dL_law_741 : decode cL_law 741 = .ok (.if_icmp .eq 183, 3) := by decide +kernel
theorem dL_law_744 : decode cL_law 744 = .ok (.iconst 0, 1) := by decide +kernel
theorem dL_law_745 : decode cL_law 745 = .ok (.ireturn, 1) := by decide +kernel
theorem dL_law_746 : decode cL_law 746 = .ok (.aload_n 1, 1) := by decide +kernel
theorem dL_law_747 : decode cL_law 747 = .ok (.aload_n 0, 1) := by decide +kernel
theorem dL_law_748 : decode cL_law 748 = .ok (.iload_n 3, 1) := by decide +kernel
theorem dL_law_749 : decode cL_law 749 = .ok (.iconst 1, 1) := by decide +kernel
theorem dL_law_750 : decode cL_law 750 = .ok (.iadd, 1) := by decide +kernel
theorem dL_law_751 : decode cL_law 751 = .ok (.iaload, 1) := by decide +kernel
theorem dL_law_752 : decode cL_law 752 = .ok (.aload_n 0, 1) := by decide +kernel
theorem dL_law_753 : decode cL_law 753 = .ok (.iload_n 3, 1) := by decide +kernel
theorem dL_law_754 : decode cL_law 754 = .ok (.iconst 2, 1) := by decide +kernel
theorem dL_law_755 : decode cL_law 755 = .ok (.iadd, 1) := by decide +kernel
theorem dL_law_756 : decode cL_law 756 = .ok (.iaload, 1) := by decide +kernel
theorem dL_law_757 : decode cL_law 757 = .ok (.invokevirtual 101, 3) := by decide +kernel
theorem dL_law_760 : decode cL_law 760 = .ok (.aload_n 2, 1) := by decide +kernel
theorem dL_law_761 : decode cL_law 761 = .ok (.aload_n 0, 1) := by decide +kernel
theorem dL_law_762 : decode cL_law 762 = .ok (.iload_n 3, 1) := by decide +kernel
theorem dL_law_763 : decode cL_law 763 = .ok (.iconst 1, 1) := by decide +kernel
theorem dL_law_764 : decode cL_law 764 = .ok (.iadd, 1) := by decide +kernel
theorem dL_law_765 : decode cL_law 765 = .ok (.iaload, 1) := by decide +kernel
theorem dL_law_766 : decode cL_law 766 = .ok (.aload_n 0, 1) := by decide +kernel
theorem dL_law_767 : decode cL_law 767 = .ok (.iload_n 3, 1) := by decide +kernel
theorem dL_law_768 : decode cL_law 768 = .ok (.iconst 2, 1) := by decide +kernel
theorem dL_law_769 : decode cL_law 769 = .ok (.iadd, 1) := by decide +kernel
theorem dL_law_770 : decode cL_law 770 = .ok (.iaload, 1) := by decide +kernel
theorem dL_law_771 : decode cL_law 771 = .ok (.invokevirtual 104, 3) := by decide +kernel
theorem dL_law_774 : decode cL_law 774 = .ok (.if_icmp .eq 150, 3) := by decide +kernel
theorem dL_law_777 : decode cL_law 777 = .ok (.iconst 0, 1) := by decide +kernel
theorem dL_law_778 : decode cL_law 778 = .ok (.ireturn, 1) := by decide +kernel
theorem dL_law_779 : decode cL_law 779 = .ok (.aload_n 1, 1) := by decide +kernel
theorem dL_law_780 : decode cL_law 780 = .ok (.aload_n 0, 1) := by decide +kernel
theorem dL_law_781 : decode cL_law 781 = .ok (.iload_n 3, 1) := by decide +kernel
theorem dL_law_782 : decode cL_law 782 = .ok (.iconst 1, 1) := by decide +kernel
theorem dL_law_783 : decode cL_law 783 = .ok (.iadd, 1) := by decide +kernel
theorem dL_law_784 : decode cL_law 784 = .ok (.iaload, 1) := by decide +kernel
theorem dL_law_785 : decode cL_law 785 = .ok (.aload_n 0, 1) := by decide +kernel
theorem dL_law_786 : decode cL_law 786 = .ok (.iload_n 3, 1) := by decide +kernel
theorem dL_law_787 : decode cL_law 787 = .ok (.iconst 2, 1) := by decide +kernel
theorem dL_law_788 : decode cL_law 788 = .ok (.iadd, 1) := by decide +kernel
theorem dL_law_789 : decode cL_law 789 = .ok (.iaload, 1) := by decide +kernel
theorem dL_law_790 : decode cL_law 790 = .ok (.invokevirtual 105, 3) := by decide +kernel
theorem dL_law_793 : decode cL_law 793 = .ok (.aload_n 2, 1) := by decide +kernel
theorem dL_law_794 : decode cL_law 794 = .ok (.aload_n 0, 1) := by decide +kernel
theorem dL_law_795 : decode cL_law 795 = .ok (.iload_n 3, 1) := by decide +kernel
theorem dL_law_796 : decode cL_law 796 = .ok (.iconst 1, 1) := by decide +kernel
theorem dL_law_797 : decode cL_law 797 = .ok (.iadd, 1) := by decide +kernel
theorem dL_law_798 : decode cL_law 798 = .ok (.iaload, 1) := by decide +kernel
theorem dL_law_799 : decode cL_law 799 = .ok (.aload_n 0, 1) := by decide +kernel
theorem dL_law_800 : decode cL_law 800 = .ok (.iload_n 3, 1) := by decide +kernel
theorem dL_law_801 : decode cL_law 801 = .ok (.iconst 2, 1) := by decide +kernel
theorem dL_law_802 : decode cL_law 802 = .ok (.iadd, 1) := by decide +kernel
theorem dL_law_803 : decode cL_law 803 = .ok (.iaload, 1) := by decide +kernel
theorem dL_law_804 : decode cL_law 804 = .ok (.invokevirtual 108, 3) := by decide +kernel
theorem dL_law_807 : decode cL_law 807 = .ok (.if_icmp .eq 117, 3) := by decide +kernel
theorem dL_law_810 : decode cL_law 810 = .ok (.iconst 0, 1) := by decide +kernel
theorem dL_law_811 : decode cL_law 811 = .ok (.ireturn, 1) := by decide +kernel
theorem dL_law_812 : decode cL_law 812 = .ok (.aload_n 1, 1) := by decide +kernel
theorem dL_law_813 : decode cL_law 813 = .ok (.aload_n 0, 1) := by decide +kernel
theorem dL_law_814 : decode cL_law 814 = .ok (.iload_n 3, 1) := by decide +kernel
theorem dL_law_815 : decode cL_law 815 = .ok (.iconst 1, 1) := by decide +kernel
theorem dL_law_816 : decode cL_law 816 = .ok (.iadd, 1) := by decide +kernel
theorem dL_law_817 : decode cL_law 817 = .ok (.iaload, 1) := by decide +kernel
theorem dL_law_818 : decode cL_law 818 = .ok (.aload_n 0, 1) := by decide +kernel
theorem dL_law_819 : decode cL_law 819 = .ok (.iload_n 3, 1) := by decide +kernel
theorem dL_law_820 : decode cL_law 820 = .ok (.iconst 2, 1) := by decide +kernel
theorem dL_law_821 : decode cL_law 821 = .ok (.iadd, 1) := by decide +kernel
theorem dL_law_822 : decode cL_law 822 = .ok (.iaload, 1) := by decide +kernel
theorem dL_law_823 : decode cL_law 823 = .ok (.invokevirtual 109, 3) := by decide +kernel
theorem dL_law_826 : decode cL_law 826 = .ok (.aload_n 2, 1) := by decide +kernel
theorem dL_law_827 : decode cL_law 827 = .ok (.aload_n 0, 1) := by decide +kernel
theorem dL_law_828 : decode cL_law 828 = .ok (.iload_n 3, 1) := by decide +kernel
theorem dL_law_829 : decode cL_law 829 = .ok (.iconst 1, 1) := by decide +kernel
theorem dL_law_830 : decode cL_law 830 = .ok (.iadd, 1) := by decide +kernel
theorem dL_law_831 : decode cL_law 831 = .ok (.iaload, 1) := by decide +kernel
theorem dL_law_832 : decode cL_law 832 = .ok (.aload_n 0, 1) := by decide +kernel
theorem dL_law_833 : decode cL_law 833 = .ok (.iload_n 3, 1) := by decide +kernel
theorem dL_law_834 : decode cL_law 834 = .ok (.iconst 2, 1) := by decide +kernel
theorem dL_law_835 : decode cL_law 835 = .ok (.iadd, 1) := by decide +kernel
theorem dL_law_836 : decode cL_law 836 = .ok (.iaload, 1) := by decide +kernel
theorem dL_law_837 : decode cL_law 837 = .ok (.invokevirtual 112, 3) := by decide +kernel
theorem dL_law_840 : decode cL_law 840 = .ok (.if_icmp .eq 84, 3) := by decide +kernel
theorem dL_law_843 : decode cL_law 843 = .ok (.iconst 0, 1) := by decide +kernel
theorem dL_law_844 : decode cL_law 844 = .ok (.ireturn, 1) := by decide +kernel
theorem dL_law_845 : decode cL_law 845 = .ok (.aload_n 1, 1) := by decide +kernel
theorem dL_law_846 : decode cL_law 846 = .ok (.aload_n 0, 1) := by decide +kernel
theorem dL_law_847 : decode cL_law 847 = .ok (.iload_n 3, 1) := by decide +kernel
theorem dL_law_848 : decode cL_law 848 = .ok (.iconst 1, 1) := by decide +kernel
theorem dL_law_849 : decode cL_law 849 = .ok (.iadd, 1) := by decide +kernel
theorem dL_law_850 : decode cL_law 850 = .ok (.iaload, 1) := by decide +kernel
theorem dL_law_851 : decode cL_law 851 = .ok (.aload_n 0, 1) := by decide +kernel
theorem dL_law_852 : decode cL_law 852 = .ok (.iload_n 3, 1) := by decide +kernel
theorem dL_law_853 : decode cL_law 853 = .ok (.iconst 2, 1) := by decide +kernel
theorem dL_law_854 : decode cL_law 854 = .ok (.iadd, 1) := by decide +kernel
theorem dL_law_855 : decode cL_law 855 = .ok (.iaload, 1) := by decide +kernel
theorem dL_law_856 : decode cL_law 856 = .ok (.invokevirtual 113, 3) := by decide +kernel
theorem dL_law_859 : decode cL_law 859 = .ok (.aload_n 2, 1) := by decide +kernel
theorem dL_law_860 : decode cL_law 860 = .ok (.aload_n 0, 1) := by decide +kernel
theorem dL_law_861 : decode cL_law 861 = .ok (.iload_n 3, 1) := by decide +kernel
theorem dL_law_862 : decode cL_law 862 = .ok (.iconst 1, 1) := by decide +kernel
theorem dL_law_863 : decode cL_law 863 = .ok (.iadd, 1) := by decide +kernel
theorem dL_law_864 : decode cL_law 864 = .ok (.iaload, 1) := by decide +kernel
theorem dL_law_865 : decode cL_law 865 = .ok (.aload_n 0, 1) := by decide +kernel
theorem dL_law_866 : decode cL_law 866 = .ok (.iload_n 3, 1) := by decide +kernel
theorem dL_law_867 : decode cL_law 867 = .ok (.iconst 2, 1) := by decide +kernel
theorem dL_law_868 : decode cL_law 868 = .ok (.iadd, 1) := by decide +kernel
theorem dL_law_869 : decode cL_law 869 = .ok (.iaload, 1) := by decide +kernel
theorem dL_law_870 : decode cL_law 870 = .ok (.invokevirtual 116, 3) := by decide +kernel
theorem dL_law_873 : decode cL_law 873 = .ok (.if_icmp .eq 51, 3) := by decide +kernel
theorem dL_law_876 : decode cL_law 876 = .ok (.iconst 0, 1) := by decide +kernel
theorem dL_law_877 : decode cL_law 877 = .ok (.ireturn, 1) := by decide +kernel
theorem dL_law_878 : decode cL_law 878 = .ok (.aload_n 1, 1) := by decide +kernel
theorem dL_law_879 : decode cL_law 879 = .ok (.aload_n 0, 1) := by decide +kernel
theorem dL_law_880 : decode cL_law 880 = .ok (.iload_n 3, 1) := by decide +kernel
theorem dL_law_881 : decode cL_law 881 = .ok (.iconst 1, 1) := by decide +kernel
theorem dL_law_882 : decode cL_law 882 = .ok (.iadd, 1) := by decide +kernel
theorem dL_law_883 : decode cL_law 883 = .ok (.iaload, 1) := by decide +kernel
theorem dL_law_884 : decode cL_law 884 = .ok (.invokevirtual 117, 3) := by decide +kernel
theorem dL_law_887 : decode cL_law 887 = .ok (.aload_n 2, 1) := by decide +kernel
theorem dL_law_888 : decode cL_law 888 = .ok (.aload_n 0, 1) := by decide +kernel
theorem dL_law_889 : decode cL_law 889 = .ok (.iload_n 3, 1) := by decide +kernel
theorem dL_law_890 : decode cL_law 890 = .ok (.iconst 1, 1) := by decide +kernel
theorem dL_law_891 : decode cL_law 891 = .ok (.iadd, 1) := by decide +kernel
theorem dL_law_892 : decode cL_law 892 = .ok (.iaload, 1) := by decide +kernel
theorem dL_law_893 : decode cL_law 893 = .ok (.invokevirtual 120, 3) := by decide +kernel
theorem dL_law_896 : decode cL_law 896 = .ok (.if_icmp .eq 28, 3) := by decide +kernel
theorem dL_law_899 : decode cL_law 899 = .ok (.iconst 0, 1) := by decide +kernel
theorem dL_law_900 : decode cL_law 900 = .ok (.ireturn, 1) := by decide +kernel
theorem dL_law_901 : decode cL_law 901 = .ok (.aload_n 1, 1) := by decide +kernel
theorem dL_law_902 : decode cL_law 902 = .ok (.aload_n 0, 1) := by decide +kernel
theorem dL_law_903 : decode cL_law 903 = .ok (.iload_n 3, 1) := by decide +kernel
theorem dL_law_904 : decode cL_law 904 = .ok (.iconst 1, 1) := by decide +kernel
theorem dL_law_905 : decode cL_law 905 = .ok (.iadd, 1) := by decide +kernel
theorem dL_law_906 : decode cL_law 906 = .ok (.iaload, 1) := by decide +kernel
theorem dL_law_907 : decode cL_law 907 = .ok (.invokevirtual 121, 3) := by decide +kernel
theorem dL_law_910 : decode cL_law 910 = .ok (.aload_n 2, 1) := by decide +kernel
theorem dL_law_911 : decode cL_law 911 = .ok (.aload_n 0, 1) := by decide +kernel
theorem dL_law_912 : decode cL_law 912 = .ok (.iload_n 3, 1) := by decide +kernel
theorem dL_law_913 : decode cL_law 913 = .ok (.iconst 1, 1) := by decide +kernel
theorem dL_law_914 : decode cL_law 914 = .ok (.iadd, 1) := by decide +kernel
theorem dL_law_915 : decode cL_law 915 = .ok (.iaload, 1) := by decide +kernel
theorem dL_law_916 : decode cL_law 916 = .ok (.invokevirtual 124, 3) := by decide +kernel
theorem dL_law_919 : decode cL_law 919 = .ok (.if_icmp .eq 5, 3) := by decide +kernel
theorem dL_law_922 : decode cL_law 922 = .ok (.iconst 0, 1) := by decide +kernel
theorem dL_law_923 : decode cL_law 923 = .ok (.ireturn, 1) := by decide +kernel
theorem dL_law_924 : decode cL_law 924 = .ok (.iinc 3 5, 3) := by decide +kernel
theorem dL_law_927 : decode cL_law 927 = .ok (.goto (-909), 3) := by decide +kernel
theorem dL_law_930 : decode cL_law 930 = .ok (.iconst 1, 1) := by decide +kernel
theorem dL_law_931 : decode cL_law 931 = .ok (.ireturn, 1) := by decide +kernel
abbrev vwCl : List vw_C := [(RX0, TX0, 6), (RX1, TX1, 15), (RX2, TX2, 3), (RX3, TX3, 7), (RX4, TX4, 3), (RX5, TX5, 7), (RX6, TX6, 5), (RX7, TX7, 2), (RX8, TX8, 11), (RX9, TX9, 4), (RX10, TX10, 10)]
