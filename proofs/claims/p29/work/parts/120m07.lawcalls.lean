set_option maxRecDepth 20000 in
theorem gL_law_L_fails : GoodIn wsL_law (va_wsS RL 122 yL_fails wsL_fails) := goodIn_app (goodIn_of _ (by decide +kernel)) ggL_law_L_fails
set_option maxRecDepth 20000 in
theorem ggL_law_L_diverts : GoodIn wsL_law wsL_diverts := goodIn_r _ [569, 280, 281, 282, 2, 283, 12, 284, 285, 286, 287, 288, 289, 290, 291, 292, 293, 294, 295, 296, 297, 298, 11, 299, 121, 27, 412, 413, 414, 415, 416, 417, 418, 60, 419, 146, 67, 370, 371, 372, 373, 374, 375, 376, 377, 378, 251, 379, 380, 381, 382, 383, 122, 29, 384, 385, 386, 42, 387, 161, 570, 571, 572, 573, 17, 103, 104, 105, 16, 106, 83, 107, 108, 109, 110, 111, 112, 113, 114, 115, 116, 117, 118, 119, 120, 123, 31, 124, 33, 37, 125, 38, 126, 127, 128, 40, 129, 61, 62, 130, 131, 132, 133, 134, 135, 63, 136, 137, 138, 139, 140, 141, 142, 143, 144, 145, 147, 148, 149, 150, 151, 152, 153, 154, 155, 156, 157, 158, 159, 160, 162, 163, 164, 165, 166, 167, 168, 44, 169, 170, 171, 172, 173, 174, 175, 176, 177, 46, 178, 179, 180, 77, 181, 182, 183, 36, 184, 51, 185, 52, 53, 54, 186, 187, 574, 575, 576, 577, 357, 396, 309, 276, 277, 278, 279, 246, 578, 579, 580, 581, 397, 500, 452, 398, 366, 367, 368, 369, 198, 199, 200, 201, 202, 203, 204, 205, 666, 667, 668, 669, 697, 698, 699, 700, 701, 702, 703, 704, 705, 706, 707, 708, 709, 710, 711, 727, 728, 670, 671, 672, 673, 674, 675, 676, 677, 678, 679, 680, 712, 713, 714, 715, 716, 717, 718, 681, 682, 683, 719, 720, 721, 722, 723, 724, 725, 726, 691, 692, 693, 694, 695, 696] rfl (by decide +kernel)
set_option maxRecDepth 20000 in
theorem gL_law_L_diverts : GoodIn wsL_law (va_wsS RL 125 yL_diverts wsL_diverts) := goodIn_app (goodIn_of _ (by decide +kernel)) ggL_law_L_diverts
set_option maxRecDepth 20000 in
theorem gq_wsL_orders_r1 : GoodIn wsL_law wsL_orders_r1 := goodIn_r _ [247, 248, 249, 2, 250, 12, 251, 252, 253, 254, 17, 255, 21, 256, 257, 258, 259, 11, 260, 122, 29, 261, 262, 263] rfl (by decide +kernel)
set_option maxRecDepth 20000 in
theorem gq_wsL_orders_r2 : GoodIn wsL_law wsL_orders_r2 := goodIn_r _ [264, 265, 121, 27, 266, 267, 268, 269, 270, 123, 31, 271, 272, 273, 274, 275, 276, 277, 278, 40, 279, 61, 246, 62] rfl (by decide +kernel)
set_option maxRecDepth 20000 in
theorem gq_wsL_orders_r3 : GoodIn wsL_law wsL_orders_r3 := goodIn_r _ [585, 586, 587, 588, 589, 590, 591, 20, 592, 593, 594, 595, 596, 597, 598, 599, 600, 601, 602, 603, 604, 605, 606, 607] rfl (by decide +kernel)
set_option maxRecDepth 20000 in
theorem gq_wsL_orders_r4 : GoodIn wsL_law wsL_orders_r4 := goodIn_r _ [608, 609, 610, 611, 612, 613, 614, 615, 89, 616, 617, 618, 619, 620, 621, 622, 623, 624, 625, 626, 627, 628, 629, 630] rfl (by decide +kernel)
set_option maxRecDepth 20000 in
theorem gq_wsL_orders_r5 : GoodIn wsL_law wsL_orders_r5 := goodIn_r _ [631, 632, 633, 634, 103, 104, 105, 16, 106, 83, 107, 108, 109, 110, 111, 112, 113, 114, 115, 116, 117, 118, 119, 120] rfl (by decide +kernel)
set_option maxRecDepth 20000 in
theorem gq_wsL_orders_r6 : GoodIn wsL_law wsL_orders_r6 := goodIn_r _ [124, 33, 37, 125, 38, 126, 127, 128, 129, 130, 131, 132, 133, 134, 135, 63, 136, 137, 138, 139, 140, 141, 142, 143] rfl (by decide +kernel)
