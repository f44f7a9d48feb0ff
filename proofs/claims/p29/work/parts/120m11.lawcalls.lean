theorem ggL_law_L_pools : GoodIn wsL_law wsL_pools := by
  unfold wsL_pools
  exact goodIn_app gq_wsL_pools_h (goodIn_app (goodIn_app (goodIn_app (goodIn_app (goodIn_app (goodIn_app (goodIn_app (goodIn_app (goodIn_app (goodIn_app gq_wsL_pools_r1 (goodIn_app gq_wsL_pools_r2 (goodIn_app gq_wsL_pools_r3 gq_wsL_pools_r4))) gq_wsX90) gq_wsX80) gq_wsX20) gq_wsX30) gq_wsX50) gq_wsX10) gq_wsX60) gq_wsX70) gq_wsX40)
set_option maxRecDepth 20000 in
theorem gL_law_L_pools : GoodIn wsL_law (va_wsS RL 137 yL_pools wsL_pools) := goodIn_app (goodIn_of _ (by decide +kernel)) ggL_law_L_pools
set_option maxRecDepth 20000 in
theorem gq_wsL_errors_r1 : GoodIn wsL_law wsL_errors_r1 := goodIn_r _ [665, 247, 248, 249, 2, 250, 12, 251, 252, 253, 254, 17, 255, 21, 256, 257, 258, 259, 11, 260, 122, 29, 261, 262] rfl (by decide +kernel)
set_option maxRecDepth 20000 in
theorem gq_wsL_errors_r2 : GoodIn wsL_law wsL_errors_r2 := goodIn_r _ [263, 264, 265, 121, 27, 266, 267, 268, 269, 270, 123, 31, 271, 272, 273, 274, 275, 276, 277, 278, 40, 279, 61, 246] rfl (by decide +kernel)
set_option maxRecDepth 20000 in
theorem gq_wsL_errors_r3 : GoodIn wsL_law wsL_errors_r3 := goodIn_r _ [62, 234, 235, 236, 237, 103, 104, 105, 16, 106, 83, 107, 108, 109, 110, 111, 112, 113, 114, 115, 116, 117, 118, 119] rfl (by decide +kernel)
set_option maxRecDepth 20000 in
theorem gq_wsL_errors_r4 : GoodIn wsL_law wsL_errors_r4 := goodIn_r _ [120, 124, 33, 37, 125, 38, 126, 127, 128, 129, 130, 131, 132, 133, 134, 135, 63, 136, 137, 138, 139, 140, 141, 142] rfl (by decide +kernel)
set_option maxRecDepth 20000 in
theorem gq_wsL_errors_r5 : GoodIn wsL_law wsL_errors_r5 := goodIn_r _ [143, 144, 60, 145, 146, 67, 147, 148, 149, 150, 151, 152, 153, 154, 155, 156, 157, 42, 158, 159, 160, 161, 162, 163] rfl (by decide +kernel)
set_option maxRecDepth 20000 in
theorem gq_wsL_errors_r6 : GoodIn wsL_law wsL_errors_r6 := goodIn_r _ [164, 165, 166, 167, 168, 44, 169, 170, 171, 172, 173, 174, 175, 176, 177, 46, 178, 179, 180, 77, 181, 182, 183, 36] rfl (by decide +kernel)
set_option maxRecDepth 20000 in
theorem gq_wsL_errors_r7 : GoodIn wsL_law wsL_errors_r7 := goodIn_r _ [184, 51, 185, 52, 53, 54, 186, 187, 238, 239, 240, 241, 192, 193, 242, 243, 244, 245, 198, 199, 200, 201, 202, 203] rfl (by decide +kernel)
