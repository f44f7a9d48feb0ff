set_option maxRecDepth 20000 in
theorem gq_wsX30 : GoodIn wsL_law wsX30 := goodIn_r _ [684, 685, 686, 687, 688, 689, 690] rfl (by decide +kernel)
set_option maxRecDepth 20000 in
theorem gq_wsX00 : GoodIn wsL_law wsX00 := goodIn_r _ [691, 692, 693, 694, 695, 696] rfl (by decide +kernel)
set_option maxRecDepth 20000 in
theorem gq_wsL_tick_h : GoodIn wsL_law [.code yL_tick cL_tick 20 (some .boolean)] := goodIn_r _ [411] rfl (by decide +kernel)
theorem ggL_law_L_tick : GoodIn wsL_law wsL_tick := by
  unfold wsL_tick
  exact goodIn_app gq_wsL_tick_h (goodIn_app (goodIn_app (goodIn_app (goodIn_app (goodIn_app (goodIn_app (goodIn_app (goodIn_app (goodIn_app (goodIn_app (goodIn_app gq_wsL_tick_r1 (goodIn_app gq_wsL_tick_r2 (goodIn_app gq_wsL_tick_r3 (goodIn_app gq_wsL_tick_r4 (goodIn_app gq_wsL_tick_r5 (goodIn_app gq_wsL_tick_r6 (goodIn_app gq_wsL_tick_r7 (goodIn_app gq_wsL_tick_r8 (goodIn_app gq_wsL_tick_r9 (goodIn_app gq_wsL_tick_r10 (goodIn_app gq_wsL_tick_r11 (goodIn_app gq_wsL_tick_r12 (goodIn_app gq_wsL_tick_r13 (goodIn_app gq_wsL_tick_r14 gq_wsL_tick_r15)))))))))))))) gq_wsX90) gq_wsX10) gq_wsX70) gq_wsX80) gq_wsX50) gq_wsX40) gq_wsX60) gq_wsX20) gq_wsX30) gq_wsX00)
set_option maxRecDepth 20000 in
theorem gL_law_L_tick : GoodIn wsL_law (va_wsS RL 115 yL_tick wsL_tick) := goodIn_app (goodIn_of _ (by decide +kernel)) ggL_law_L_tick
set_option maxRecDepth 20000 in
theorem ggL_law_X9_pass : GoodIn wsL_law wsX9_pass := goodIn_r _ [426, 17, 12, 103, 104, 105, 16, 106, 83, 107, 108, 109, 110, 111, 112, 113, 114, 115, 116, 117, 118, 119, 11, 120, 121, 27, 122, 29, 123, 31, 124, 33, 37, 125, 38, 126, 127, 128, 40, 129, 61, 62, 130, 131, 132, 133, 134, 135, 63, 136, 137, 138, 139, 140, 141, 142, 143, 144, 60, 145, 146, 67, 147, 148, 149, 150, 151, 152, 153, 154, 155, 156, 157, 42, 158, 159, 160, 161, 162, 163, 164, 165, 166, 167, 168, 44, 169, 170, 171, 172, 173, 174, 175, 176, 177, 46, 178, 179, 180, 77, 181, 182, 183, 36, 184, 51, 185, 52, 53, 54, 186, 187, 427, 428, 429, 430, 192, 2, 193, 431, 432, 433, 434, 407, 435, 436, 437, 438, 439, 440, 441, 442, 443, 266, 444, 261, 445, 446, 447, 448, 449, 450, 308, 357, 396, 451, 452, 417, 418, 419, 398, 381, 382, 383, 453, 454, 455, 456, 457, 458, 459, 460, 461, 339, 462, 463, 464, 232, 340, 328, 329, 330, 215, 216, 217, 218, 465, 466, 467, 468, 469, 470, 471, 472, 473, 474, 475, 476, 477, 478, 271, 479, 480, 481, 482, 483, 484, 485, 486, 408, 487, 488, 489, 490, 491, 492, 493, 494, 495, 496, 497, 498, 499, 500, 501, 502, 503, 504, 505, 506, 507, 508, 509, 510, 511, 198, 199, 200, 201, 202, 203, 204, 205, 666, 667, 668, 669, 681, 682, 683, 670, 671, 672, 673, 674, 675, 676, 677, 678, 679, 680, 697, 698, 699, 700, 701, 702, 703, 704, 705, 706, 707, 708, 709, 710, 711, 727, 728, 712, 713, 714, 715, 716, 717, 718, 719, 720, 721, 722, 723, 724, 725, 726, 691, 692, 693, 694, 695, 696] rfl (by decide +kernel)
set_option maxRecDepth 20000 in
theorem gL_law_X9_pass : GoodIn wsL_law (wsV RL 38 RX9 yX9_pass wsX9_pass) := goodIn_app (goodIn_of _ (by decide +kernel)) ggL_law_X9_pass
set_option maxRecDepth 20000 in
theorem gq_wsL_ahead_r1 : GoodIn wsL_law wsL_ahead_r1 := goodIn_r _ [370, 371, 372, 2, 373, 12, 374, 375, 376, 377, 378, 251, 379, 380, 381, 382, 11, 383, 122, 29, 384, 385, 386, 42] rfl (by decide +kernel)
set_option maxRecDepth 20000 in
theorem gq_wsL_ahead_r2 : GoodIn wsL_law wsL_ahead_r2 := goodIn_r _ [387, 161, 524, 525, 526, 527, 13, 528, 118, 119, 120, 121, 27, 123, 31, 124, 33, 37, 125, 38, 126, 127, 128, 40] rfl (by decide +kernel)
