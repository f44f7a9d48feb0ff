set_option maxRecDepth 20000 in
theorem gq_wsL_orders_r16 : GoodIn wsL_law wsL_orders_r16 := goodIn_r _ [651, 652, 653, 654, 92, 655, 320, 321, 322, 323, 324, 325, 326, 327, 370, 371, 372, 373, 374, 375, 376, 377, 378, 379] rfl (by decide +kernel)
set_option maxRecDepth 20000 in
theorem gq_wsL_orders_r17 : GoodIn wsL_law wsL_orders_r17 := goodIn_r _ [380, 384, 385, 386, 387, 534, 535, 536, 537, 538, 539, 540, 541, 542, 543, 544, 528] rfl (by decide +kernel)
set_option maxRecDepth 20000 in
theorem gq_wsL_orders_h : GoodIn wsL_law [.code yL_orders cL_orders 12 (some .boolean)] := goodIn_r _ [584] rfl (by decide +kernel)
theorem ggL_law_L_orders : GoodIn wsL_law wsL_orders := by
  unfold wsL_orders
  exact goodIn_app gq_wsL_orders_h (goodIn_app (goodIn_app (goodIn_app (goodIn_app (goodIn_app (goodIn_app (goodIn_app (goodIn_app (goodIn_app (goodIn_app (goodIn_app gq_wsL_orders_r1 (goodIn_app gq_wsL_orders_r2 (goodIn_app gq_wsL_orders_r3 (goodIn_app gq_wsL_orders_r4 (goodIn_app gq_wsL_orders_r5 (goodIn_app gq_wsL_orders_r6 (goodIn_app gq_wsL_orders_r7 (goodIn_app gq_wsL_orders_r8 (goodIn_app gq_wsL_orders_r9 (goodIn_app gq_wsL_orders_r10 (goodIn_app gq_wsL_orders_r11 (goodIn_app gq_wsL_orders_r12 (goodIn_app gq_wsL_orders_r13 (goodIn_app gq_wsL_orders_r14 (goodIn_app gq_wsL_orders_r15 (goodIn_app gq_wsL_orders_r16 gq_wsL_orders_r17)))))))))))))))) gq_wsX90) gq_wsX80) gq_wsX20) gq_wsX30) gq_wsX50) gq_wsX10) gq_wsX60) gq_wsX70) gq_wsX40) gq_wsX00)
set_option maxRecDepth 20000 in
theorem gL_law_L_orders : GoodIn wsL_law (va_wsS RL 129 yL_orders wsL_orders) := goodIn_app (goodIn_of _ (by decide +kernel)) ggL_law_L_orders
set_option maxRecDepth 20000 in
theorem gq_wsL_people_r1 : GoodIn wsL_law wsL_people_r1 := goodIn_r _ [50, 247, 248, 249, 2, 250, 12, 251, 252, 253, 254, 17, 255, 21, 256, 257, 258, 259, 11, 260, 122, 29, 261, 262] rfl (by decide +kernel)
set_option maxRecDepth 20000 in
theorem gq_wsL_people_r2 : GoodIn wsL_law wsL_people_r2 := goodIn_r _ [263, 264, 265, 121, 27, 266, 267, 268, 269, 270, 123, 31, 271, 272, 273, 274, 275, 276, 277, 278, 40, 279, 61, 246] rfl (by decide +kernel)
set_option maxRecDepth 20000 in
theorem gq_wsL_people_r3 : GoodIn wsL_law wsL_people_r3 := goodIn_r _ [62, 370, 371, 372, 373, 374, 375, 376, 377, 378, 379, 380, 381, 382, 383, 384, 385, 386, 42, 387, 161, 280, 281, 282] rfl (by decide +kernel)
set_option maxRecDepth 20000 in
theorem gq_wsL_people_r4 : GoodIn wsL_law wsL_people_r4 := goodIn_r _ [283, 284, 285, 286, 287, 288, 289, 290, 291, 292, 293, 294, 295, 296, 297, 298, 299, 412, 413, 414, 415, 416, 417, 418] rfl (by decide +kernel)
