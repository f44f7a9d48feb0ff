set_option maxRecDepth 20000 in
theorem gq_wsL_orders_r7 : GoodIn wsL_law wsL_orders_r7 := goodIn_r _ [144, 60, 145, 146, 67, 147, 148, 149, 150, 151, 152, 153, 154, 155, 156, 157, 42, 158, 159, 160, 161, 162, 163, 164] rfl (by decide +kernel)
set_option maxRecDepth 20000 in
theorem gq_wsL_orders_r8 : GoodIn wsL_law wsL_orders_r8 := goodIn_r _ [165, 166, 167, 168, 44, 169, 170, 171, 172, 173, 174, 175, 176, 177, 46, 178, 179, 180, 77, 181, 182, 183, 36, 184] rfl (by decide +kernel)
set_option maxRecDepth 20000 in
theorem gq_wsL_orders_r9 : GoodIn wsL_law wsL_orders_r9 := goodIn_r _ [51, 185, 52, 53, 54, 186, 187, 202, 203, 204, 205, 635, 636, 637, 638, 639, 640, 641, 642, 643, 644, 353, 354, 355] rfl (by decide +kernel)
set_option maxRecDepth 20000 in
theorem gq_wsL_orders_r10 : GoodIn wsL_law wsL_orders_r10 := goodIn_r _ [356, 357, 309, 297, 298, 299, 340, 328, 329, 330, 358, 359, 360, 361, 362, 363, 364, 365, 366, 367, 368, 369, 392, 393] rfl (by decide +kernel)
set_option maxRecDepth 20000 in
theorem gq_wsL_orders_r11 : GoodIn wsL_law wsL_orders_r11 := goodIn_r _ [394, 395, 396, 397, 398, 381, 382, 383, 427, 428, 429, 430, 192, 193, 431, 432, 433, 434, 407, 435, 436, 437, 438, 439] rfl (by decide +kernel)
set_option maxRecDepth 20000 in
theorem gq_wsL_orders_r12 : GoodIn wsL_law wsL_orders_r12 := goodIn_r _ [440, 441, 442, 443, 444, 445, 446, 447, 448, 449, 450, 308, 451, 452, 417, 418, 419, 453, 454, 455, 456, 457, 458, 459] rfl (by decide +kernel)
set_option maxRecDepth 20000 in
theorem gq_wsL_orders_r13 : GoodIn wsL_law wsL_orders_r13 := goodIn_r _ [460, 461, 339, 462, 463, 464, 232, 215, 216, 217, 218, 465, 466, 467, 468, 469, 470, 471, 472, 473, 474, 475, 476, 477] rfl (by decide +kernel)
set_option maxRecDepth 20000 in
theorem gq_wsL_orders_r14 : GoodIn wsL_law wsL_orders_r14 := goodIn_r _ [478, 479, 480, 481, 482, 483, 484, 485, 486, 408, 487, 488, 489, 490, 491, 492, 493, 494, 495, 496, 497, 498, 499, 500] rfl (by decide +kernel)
set_option maxRecDepth 20000 in
theorem gq_wsL_orders_r15 : GoodIn wsL_law wsL_orders_r15 := goodIn_r _ [501, 502, 503, 504, 505, 506, 507, 508, 509, 510, 511, 403, 404, 405, 406, 556, 557, 558, 645, 646, 647, 648, 649, 650] rfl (by decide +kernel)
