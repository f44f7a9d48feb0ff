set_option maxRecDepth 20000 in
theorem gq_wsL_tick_r6 : GoodIn wsL_law wsL_tick_r6 := goodIn_r _ [275, 276, 277, 278, 40, 279, 61, 246, 62, 423, 424, 425, 426, 103, 104, 105, 16, 106, 83, 107, 108, 109, 110, 111] rfl (by decide +kernel)
set_option maxRecDepth 20000 in
theorem gq_wsL_tick_r7 : GoodIn wsL_law wsL_tick_r7 := goodIn_r _ [112, 113, 114, 115, 116, 117, 118, 119, 120, 37, 125, 38, 126, 127, 128, 129, 130, 131, 132, 133, 134, 135, 63, 136] rfl (by decide +kernel)
set_option maxRecDepth 20000 in
theorem gq_wsL_tick_r8 : GoodIn wsL_law wsL_tick_r8 := goodIn_r _ [137, 138, 139, 140, 141, 142, 143, 144, 145, 147, 148, 149, 150, 151, 152, 153, 154, 155, 156, 157, 158, 159, 160, 162] rfl (by decide +kernel)
set_option maxRecDepth 20000 in
theorem gq_wsL_tick_r9 : GoodIn wsL_law wsL_tick_r9 := goodIn_r _ [163, 164, 165, 166, 167, 168, 44, 169, 170, 171, 172, 173, 174, 175, 176, 177, 46, 178, 179, 180, 77, 181, 182, 183] rfl (by decide +kernel)
set_option maxRecDepth 20000 in
theorem gq_wsL_tick_r10 : GoodIn wsL_law wsL_tick_r10 := goodIn_r _ [36, 184, 51, 185, 52, 53, 54, 186, 187, 427, 428, 429, 430, 192, 193, 431, 432, 433, 434, 407, 435, 436, 437, 438] rfl (by decide +kernel)
set_option maxRecDepth 20000 in
theorem gq_wsL_tick_r11 : GoodIn wsL_law wsL_tick_r11 := goodIn_r _ [439, 440, 441, 442, 443, 444, 445, 446, 447, 448, 449, 450, 308, 357, 396, 451, 452, 398, 453, 454, 455, 456, 457, 458] rfl (by decide +kernel)
set_option maxRecDepth 20000 in
theorem gq_wsL_tick_r12 : GoodIn wsL_law wsL_tick_r12 := goodIn_r _ [459, 460, 461, 339, 462, 463, 464, 232, 340, 215, 465, 466, 467, 468, 469, 470, 471, 472, 473, 474, 475, 476, 477, 478] rfl (by decide +kernel)
set_option maxRecDepth 20000 in
theorem gq_wsL_tick_r13 : GoodIn wsL_law wsL_tick_r13 := goodIn_r _ [479, 480, 481, 482, 483, 484, 485, 486, 408, 487, 488, 489, 490, 491, 492, 493, 494, 495, 496, 497, 498, 499, 500, 501] rfl (by decide +kernel)
set_option maxRecDepth 20000 in
theorem gq_wsL_tick_r14 : GoodIn wsL_law wsL_tick_r14 := goodIn_r _ [502, 503, 504, 505, 506, 507, 508, 509, 510, 511, 198, 199, 200, 201, 202, 203, 204, 205, 512, 513, 514, 515, 516, 517] rfl (by decide +kernel)
