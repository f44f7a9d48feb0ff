set_option maxRecDepth 20000 in
theorem gq_wsL_people_r5 : GoodIn wsL_law wsL_people_r5 := goodIn_r _ [60, 419, 146, 67] rfl (by decide +kernel)
set_option maxRecDepth 20000 in
theorem gq_wsL_people_h : GoodIn wsL_law [.code yL_people cL_people 10 (some .boolean)] := goodIn_r _ [658] rfl (by decide +kernel)
theorem ggL_law_L_people : GoodIn wsL_law wsL_people := by
  unfold wsL_people
  exact goodIn_app gq_wsL_people_h (goodIn_app (goodIn_app (goodIn_app (goodIn_app (goodIn_app (goodIn_app (goodIn_app (goodIn_app (goodIn_app gq_wsL_people_r1 (goodIn_app gq_wsL_people_r2 (goodIn_app gq_wsL_people_r3 (goodIn_app gq_wsL_people_r4 gq_wsL_people_r5)))) gq_wsX90) gq_wsX80) gq_wsX20) gq_wsX30) gq_wsX50) gq_wsX10) gq_wsX60) gq_wsX70)
set_option maxRecDepth 20000 in
theorem gL_law_L_people : GoodIn wsL_law (va_wsS RL 133 yL_people wsL_people) := goodIn_app (goodIn_of _ (by decide +kernel)) ggL_law_L_people
set_option maxRecDepth 20000 in
theorem gq_wsL_pools_r1 : GoodIn wsL_law wsL_pools_r1 := goodIn_r _ [247, 248, 249, 2, 250, 12, 251, 252, 253, 254, 17, 255, 21, 256, 257, 258, 259, 11, 260, 122, 29, 261, 262, 263] rfl (by decide +kernel)
set_option maxRecDepth 20000 in
theorem gq_wsL_pools_r2 : GoodIn wsL_law wsL_pools_r2 := goodIn_r _ [264, 265, 121, 27, 266, 267, 268, 269, 270, 123, 31, 271, 272, 273, 274, 275, 276, 277, 278, 40, 279, 61, 246, 62] rfl (by decide +kernel)
set_option maxRecDepth 20000 in
theorem gq_wsL_pools_r3 : GoodIn wsL_law wsL_pools_r3 := goodIn_r _ [310, 311, 312, 313, 314, 315, 316, 317, 318, 319, 216, 217, 218, 370, 371, 372, 373, 374, 375, 376, 377, 378, 379, 380] rfl (by decide +kernel)
set_option maxRecDepth 20000 in
theorem gq_wsL_pools_r4 : GoodIn wsL_law wsL_pools_r4 := goodIn_r _ [381, 382, 383, 384, 385, 386, 42, 387, 161, 320, 321, 322, 323, 324, 325, 326, 327, 328, 329, 330, 124, 33] rfl (by decide +kernel)
set_option maxRecDepth 20000 in
theorem gq_wsL_pools_h : GoodIn wsL_law [.code yL_pools cL_pools 8 (some .boolean)] := goodIn_r _ [661] rfl (by decide +kernel)
