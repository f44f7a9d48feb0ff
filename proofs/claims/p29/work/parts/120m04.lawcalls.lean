set_option maxRecDepth 20000 in
theorem gq_wsL_ahead_r3 : GoodIn wsL_law wsL_ahead_r3 := goodIn_r _ [129, 61, 62, 130, 131, 132, 133, 134, 135, 63, 136, 137, 138, 139, 140, 141, 142, 143, 144, 60, 145, 146, 67, 147] rfl (by decide +kernel)
set_option maxRecDepth 20000 in
theorem gq_wsL_ahead_r4 : GoodIn wsL_law wsL_ahead_r4 := goodIn_r _ [148, 149, 150, 151, 152, 153, 154, 155, 156, 157, 158, 159, 160, 162, 163, 164, 165, 166, 167, 168, 44, 169, 170, 171] rfl (by decide +kernel)
set_option maxRecDepth 20000 in
theorem gq_wsL_ahead_r5 : GoodIn wsL_law wsL_ahead_r5 := goodIn_r _ [172, 173, 174, 175, 176, 177, 46, 178, 179, 180, 77, 181, 182, 183, 36, 184, 51, 185, 52, 53, 54, 186, 187, 529] rfl (by decide +kernel)
set_option maxRecDepth 20000 in
theorem gq_wsL_ahead_r6 : GoodIn wsL_law wsL_ahead_r6 := goodIn_r _ [530, 531, 532, 261, 398, 533, 428, 429, 430, 192, 193, 431, 432, 433, 434, 407, 435, 436, 437, 438, 439, 440, 441, 442] rfl (by decide +kernel)
set_option maxRecDepth 20000 in
theorem gq_wsL_ahead_r7 : GoodIn wsL_law wsL_ahead_r7 := goodIn_r _ [443, 266, 444, 445, 446, 447, 448, 449, 450, 308, 357, 396, 451, 452, 417, 418, 419, 453, 454, 455, 456, 457, 458, 459] rfl (by decide +kernel)
set_option maxRecDepth 20000 in
theorem gq_wsL_ahead_r8 : GoodIn wsL_law wsL_ahead_r8 := goodIn_r _ [460, 461, 339, 462, 463, 464, 232, 340, 328, 329, 330, 215, 216, 217, 218, 465, 466, 467, 468, 469, 470, 471, 472, 473] rfl (by decide +kernel)
set_option maxRecDepth 20000 in
theorem gq_wsL_ahead_r9 : GoodIn wsL_law wsL_ahead_r9 := goodIn_r _ [474, 114, 115, 116, 475, 476, 477, 478, 271, 479, 480, 481, 482, 483, 484, 485, 486, 408, 487, 488, 489, 490, 491, 492] rfl (by decide +kernel)
set_option maxRecDepth 20000 in
theorem gq_wsL_ahead_r10 : GoodIn wsL_law wsL_ahead_r10 := goodIn_r _ [493, 494, 495, 496, 497, 498, 499, 500, 501, 502, 503, 504, 505, 506, 507, 508, 509, 510, 511, 423, 424, 425, 426, 17] rfl (by decide +kernel)
set_option maxRecDepth 20000 in
theorem gq_wsL_ahead_r11 : GoodIn wsL_law wsL_ahead_r11 := goodIn_r _ [103, 104, 105, 16, 106, 83, 107, 108, 109, 110, 111, 112, 113, 117, 427, 198, 199, 200, 201, 202, 203, 204, 205, 534] rfl (by decide +kernel)
