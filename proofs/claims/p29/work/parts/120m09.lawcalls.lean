set_option maxRecDepth 20000 in
theorem gq_wsL_orders_r16 : GoodIn wsL_law wsL_orders_r16 := goodIn_r _ [651, 652, 653, 654, 92, 655, 320, 321, 322, 323, 324, 325, 326, 327, 370, 371, 372, 373, 374, 375, 376, 377, 378, 379] rfl (by decide +kernel)
set_option maxRecDepth 20000 in
theorem gq_wsL_orders_r17 : GoodIn wsL_law wsL_orders_r17 := goodIn_r _ [380, 384, 385, 386, 387, 534, 535, 536, 537, 538, 539, 540, 541, 542, 543, 544, 528] rfl (by decide +kernel)
set_option maxRecDepth 20000 in
theorem gq_wsL_orders_h : GoodIn wsL_law [.code yL_orders cL_orders 12 (some .boolean)] := goodIn_r _ [584] rfl (by decide +kernel)
theorem ggL_law_L_orders : GoodIn wsL_law wsL_orders := by
  unfold wsL_orders
  exact goodIn_app gq_wsL_orders_h (goodIn_app (goodIn_app (goodIn_app (goodIn_app (goodIn_app (goodIn_app (goodIn_app (goodIn_app (goodIn_app (goodIn_app (goodIn_app gq_wsL_orders_r1 (goodIn_app gq_wsL_orders_r2 (goodIn_app gq_wsL_orders_r3 (goodIn_app gq_wsL_orders_r4 (goodIn_app gq_wsL_orders_r5 (goodIn_app gq_wsL_orders_r6 (goodIn_app gq_wsL_orders_r7 (goodIn_app gq_wsL_orders_r8 (goodIn_app gq_wsL_orders_r9 (goodIn_app gq_wsL_orders_r10 (goodIn_app gq_wsL_orders_r11 (goodIn_app gq_wsL_orders_r12 (goodIn_app gq_wsL_orders_r13 (goodIn_app gq_wsL_orders_r14 (goodIn_app gq_wsL_orders_r15 (goodIn_app gq_wsL_orders_r16 gq_wsL_orders_r17)))))))))))))))) gq_wsX90) gq_wsX80) gq_wsX20) gq_wsX30) gq_wsX50) gq_wsX10) gq_wsX60) gq_wsX70) gq_wsX40) gq_wsX00)
set_option maxRecDepth 20000 in
theorem gL_law_L_orders : GoodIn wsL_law (va_wsS RL 129 yL_orders wsL_orders) := goodIn_app (goodIn_of _ (by decide +kernel)) ggL_law_L_orders
set_option maxRecDepth 20000 in
theorem ggL_law_L_people : GoodIn wsL_law wsL_people := goodIn_r _ [658, 50, 247, 248, 249, 2, 250, 12, 251, 252, 253, 254, 17, 255, 21, 256, 257, 258, 259, 11, 260, 122, 29, 261, 262, 263, 264, 265, 121, 27, 266, 267, 268, 269, 270, 123, 31, 271, 272, 273, 274, 275, 276, 277, 278, 40, 279, 61, 246, 62, 370, 371, 372, 373, 374, 375, 376, 377, 378, 379, 380, 381, 382, 383, 384, 385, 386, 42, 387, 161, 280, 281, 282, 283, 284, 285, 286, 287, 288, 289, 290, 291, 292, 293, 294, 295, 296, 297, 298, 299, 412, 413, 414, 415, 416, 417, 418, 60, 419, 146, 67, 666, 667, 668, 669, 670, 671, 672, 673, 674, 675, 676, 677, 678, 679, 680, 681, 682, 683, 684, 685, 686, 687, 688, 689, 690, 712, 713, 714, 715, 716, 717, 718, 697, 698, 699, 700, 701, 702, 703, 704, 705, 706, 707, 708, 709, 710, 711, 719, 720, 721, 722, 723, 727, 728] (by decide +kernel) (by decide +kernel)
set_option maxRecDepth 20000 in
theorem gL_law_L_people : GoodIn wsL_law (va_wsS RL 133 yL_people wsL_people) := goodIn_app (goodIn_of _ (by decide +kernel)) ggL_law_L_people
set_option maxRecDepth 20000 in
theorem ggL_law_L_pools : GoodIn wsL_law wsL_pools := goodIn_r _ [661, 247, 248, 249, 2, 250, 12, 251, 252, 253, 254, 17, 255, 21, 256, 257, 258, 259, 11, 260, 122, 29, 261, 262, 263, 264, 265, 121, 27, 266, 267, 268, 269, 270, 123, 31, 271, 272, 273, 274, 275, 276, 277, 278, 40, 279, 61, 246, 62, 310, 311, 312, 313, 314, 315, 316, 317, 318, 319, 216, 217, 218, 370, 371, 372, 373, 374, 375, 376, 377, 378, 379, 380, 381, 382, 383, 384, 385, 386, 42, 387, 161, 320, 321, 322, 323, 324, 325, 326, 327, 328, 329, 330, 124, 33, 666, 667, 668, 669, 670, 671, 672, 673, 674, 675, 676, 677, 678, 679, 680, 681, 682, 683, 684, 685, 686, 687, 688, 689, 690, 712, 713, 714, 715, 716, 717, 718, 697, 698, 699, 700, 701, 702, 703, 704, 705, 706, 707, 708, 709, 710, 711, 719, 720, 721, 722, 723, 727, 728, 724, 725, 726] (by decide +kernel) (by decide +kernel)
set_option maxRecDepth 20000 in
theorem gL_law_L_pools : GoodIn wsL_law (va_wsS RL 137 yL_pools wsL_pools) := goodIn_app (goodIn_of _ (by decide +kernel)) ggL_law_L_pools
