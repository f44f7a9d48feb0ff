set_option maxRecDepth 20000 in
theorem gq_wsL_ahead_r12 : GoodIn wsL_law wsL_ahead_r12 := goodIn_r _ [535, 536, 537, 255, 538, 539, 540, 541, 542, 543, 544] rfl (by decide +kernel)
set_option maxRecDepth 20000 in
theorem gq_wsL_ahead_h : GoodIn wsL_law [.code yL_ahead cL_ahead 5 (some .boolean)] := goodIn_r _ [523] rfl (by decide +kernel)
theorem ggL_law_L_ahead : GoodIn wsL_law wsL_ahead := by
  unfold wsL_ahead
  exact goodIn_app gq_wsL_ahead_h (goodIn_app (goodIn_app (goodIn_app (goodIn_app (goodIn_app (goodIn_app (goodIn_app (goodIn_app (goodIn_app (goodIn_app gq_wsL_ahead_r1 (goodIn_app gq_wsL_ahead_r2 (goodIn_app gq_wsL_ahead_r3 (goodIn_app gq_wsL_ahead_r4 (goodIn_app gq_wsL_ahead_r5 (goodIn_app gq_wsL_ahead_r6 (goodIn_app gq_wsL_ahead_r7 (goodIn_app gq_wsL_ahead_r8 (goodIn_app gq_wsL_ahead_r9 (goodIn_app gq_wsL_ahead_r10 (goodIn_app gq_wsL_ahead_r11 gq_wsL_ahead_r12))))))))))) gq_wsX90) gq_wsX50) gq_wsX80) gq_wsX10) gq_wsX70) gq_wsX60) gq_wsX40) gq_wsX00) gq_wsX20)
set_option maxRecDepth 20000 in
theorem gL_law_L_ahead : GoodIn wsL_law (va_wsS RL 119 yL_ahead wsL_ahead) := goodIn_app (goodIn_of _ (by decide +kernel)) ggL_law_L_ahead
set_option maxRecDepth 20000 in
theorem gq_wsL_fails_r1 : GoodIn wsL_law wsL_fails_r1 := goodIn_r _ [280, 281, 282, 2, 283, 12, 284, 285, 286, 287, 288, 289, 290, 291, 292, 293, 294, 295, 296, 297, 298, 11, 299, 121] rfl (by decide +kernel)
set_option maxRecDepth 20000 in
theorem gq_wsL_fails_r2 : GoodIn wsL_law wsL_fails_r2 := goodIn_r _ [27, 247, 248, 249, 250, 251, 252, 253, 254, 17, 255, 21, 256, 257, 258, 259, 260, 122, 29, 261, 262, 263, 264, 265] rfl (by decide +kernel)
set_option maxRecDepth 20000 in
theorem gq_wsL_fails_r3 : GoodIn wsL_law wsL_fails_r3 := goodIn_r _ [266, 267, 268, 269, 270, 123, 31, 271, 272, 273, 274, 275, 276, 277, 278, 40, 279, 61, 246, 62, 548, 549, 550, 551] rfl (by decide +kernel)
set_option maxRecDepth 20000 in
theorem gq_wsL_fails_r4 : GoodIn wsL_law wsL_fails_r4 := goodIn_r _ [103, 104, 105, 16, 106, 83, 107, 108, 109, 110, 111, 112, 113, 114, 115, 116, 117, 118, 119, 120, 124, 33, 37, 125] rfl (by decide +kernel)
set_option maxRecDepth 20000 in
theorem gq_wsL_fails_r5 : GoodIn wsL_law wsL_fails_r5 := goodIn_r _ [38, 126, 127, 128, 129, 130, 131, 132, 133, 134, 135, 63, 136, 137, 138, 139, 140, 141, 142, 143, 144, 60, 145, 146] rfl (by decide +kernel)
