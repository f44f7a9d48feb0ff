set_option maxRecDepth 20000 in
theorem gq_wsL_errors_r17 : GoodIn wsL_law wsL_errors_r17 := goodIn_r _ [456, 457, 458, 459, 460, 464, 465, 466, 467, 468, 475, 476, 477, 478, 483, 484, 485, 486, 487, 492, 493, 494, 495, 507] rfl (by decide +kernel)
set_option maxRecDepth 20000 in
theorem gq_wsL_errors_r18 : GoodIn wsL_law wsL_errors_r18 := goodIn_r _ [508, 509, 510, 511, 280, 281, 282, 283, 284, 285, 286, 287, 288, 289, 290, 291, 292, 293, 294, 295, 296, 412, 413, 414] rfl (by decide +kernel)
set_option maxRecDepth 20000 in
theorem gq_wsL_errors_r19 : GoodIn wsL_law wsL_errors_r19 := goodIn_r _ [415, 416, 512, 513, 514, 515, 516, 517, 518, 519, 520, 524, 525, 526, 527, 374, 13, 380, 384, 385, 386, 387, 528, 529] rfl (by decide +kernel)
set_option maxRecDepth 20000 in
theorem gq_wsL_errors_r20 : GoodIn wsL_law wsL_errors_r20 := goodIn_r _ [530, 531, 532, 533] rfl (by decide +kernel)
set_option maxRecDepth 20000 in
theorem gq_wsL_errors_h : GoodIn wsL_law [.code yL_errors cL_errors 4 (some .boolean)] := goodIn_r _ [664] rfl (by decide +kernel)
theorem ggL_law_L_errors : GoodIn wsL_law wsL_errors := by
  unfold wsL_errors
  exact goodIn_app gq_wsL_errors_h (goodIn_app (goodIn_app (goodIn_app (goodIn_app (goodIn_app (goodIn_app (goodIn_app (goodIn_app (goodIn_app (goodIn_app (goodIn_app gq_wsL_errors_r1 (goodIn_app gq_wsL_errors_r2 (goodIn_app gq_wsL_errors_r3 (goodIn_app gq_wsL_errors_r4 (goodIn_app gq_wsL_errors_r5 (goodIn_app gq_wsL_errors_r6 (goodIn_app gq_wsL_errors_r7 (goodIn_app gq_wsL_errors_r8 (goodIn_app gq_wsL_errors_r9 (goodIn_app gq_wsL_errors_r10 (goodIn_app gq_wsL_errors_r11 (goodIn_app gq_wsL_errors_r12 (goodIn_app gq_wsL_errors_r13 (goodIn_app gq_wsL_errors_r14 (goodIn_app gq_wsL_errors_r15 (goodIn_app gq_wsL_errors_r16 (goodIn_app gq_wsL_errors_r17 (goodIn_app gq_wsL_errors_r18 (goodIn_app gq_wsL_errors_r19 gq_wsL_errors_r20))))))))))))))))))) gq_wsX90) gq_wsX80) gq_wsX20) gq_wsX30) gq_wsX50) gq_wsX10) gq_wsX60) gq_wsX70) gq_wsX40) gq_wsX00)
set_option maxRecDepth 20000 in
theorem gL_law_L_errors : GoodIn wsL_law (va_wsS RL 140 yL_errors wsL_errors) := goodIn_app (goodIn_of _ (by decide +kernel)) ggL_law_L_errors
