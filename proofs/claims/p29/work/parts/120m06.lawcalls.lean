set_option maxRecDepth 20000 in
theorem gq_wsL_fails_r6 : GoodIn wsL_law wsL_fails_r6 := goodIn_r _ [67, 147, 148, 149, 150, 151, 152, 153, 154, 155, 156, 157, 42, 158, 159, 160, 161, 162, 163, 164, 165, 166, 167, 168] rfl (by decide +kernel)
set_option maxRecDepth 20000 in
theorem gq_wsL_fails_r7 : GoodIn wsL_law wsL_fails_r7 := goodIn_r _ [44, 169, 170, 171, 172, 173, 174, 175, 176, 177, 46, 178, 179, 180, 77, 181, 182, 183, 36, 184, 51, 185, 52, 53] rfl (by decide +kernel)
set_option maxRecDepth 20000 in
theorem gq_wsL_fails_r8 : GoodIn wsL_law wsL_fails_r8 := goodIn_r _ [54, 186, 187, 552, 553, 554, 555, 407, 438, 309, 488, 489, 490, 491, 408, 479, 480, 481, 482, 469, 470, 471, 472, 473] rfl (by decide +kernel)
set_option maxRecDepth 20000 in
theorem gq_wsL_fails_r9 : GoodIn wsL_law wsL_fails_r9 := goodIn_r _ [474, 496, 497, 498, 499, 500, 443, 501, 444, 502, 398, 381, 382, 383, 340, 328, 329, 330, 503, 504, 505, 506, 462, 461] rfl (by decide +kernel)
set_option maxRecDepth 20000 in
theorem gq_wsL_fails_r10 : GoodIn wsL_law wsL_fails_r10 := goodIn_r _ [463, 215, 216, 217, 218, 556, 557, 558, 202, 203, 204, 205, 399, 400, 401, 402, 403, 404, 405, 406, 198, 199, 200, 201] rfl (by decide +kernel)
set_option maxRecDepth 20000 in
theorem gq_wsL_fails_r11 : GoodIn wsL_law wsL_fails_r11 := goodIn_r _ [559, 560, 561, 562, 563, 564, 565, 566, 512, 513, 514, 515, 516, 517, 518, 519, 520, 370, 371, 372, 373, 374, 375, 376] rfl (by decide +kernel)
set_option maxRecDepth 20000 in
theorem gq_wsL_fails_r12 : GoodIn wsL_law wsL_fails_r12 := goodIn_r _ [377, 378, 379, 380, 384, 385, 386, 387] rfl (by decide +kernel)
set_option maxRecDepth 20000 in
theorem gq_wsL_fails_h : GoodIn wsL_law [.code yL_fails cL_fails 7 (some .boolean)] := goodIn_r _ [547] rfl (by decide +kernel)
theorem ggL_law_L_fails : GoodIn wsL_law wsL_fails := by
  unfold wsL_fails
  exact goodIn_app gq_wsL_fails_h (goodIn_app (goodIn_app (goodIn_app (goodIn_app (goodIn_app (goodIn_app (goodIn_app (goodIn_app (goodIn_app (goodIn_app (goodIn_app gq_wsL_fails_r1 (goodIn_app gq_wsL_fails_r2 (goodIn_app gq_wsL_fails_r3 (goodIn_app gq_wsL_fails_r4 (goodIn_app gq_wsL_fails_r5 (goodIn_app gq_wsL_fails_r6 (goodIn_app gq_wsL_fails_r7 (goodIn_app gq_wsL_fails_r8 (goodIn_app gq_wsL_fails_r9 (goodIn_app gq_wsL_fails_r10 (goodIn_app gq_wsL_fails_r11 gq_wsL_fails_r12))))))))))) gq_wsX90) gq_wsX10) gq_wsX70) gq_wsX80) gq_wsX20) gq_wsX30) gq_wsX50) gq_wsX60) gq_wsX40) gq_wsX00)
