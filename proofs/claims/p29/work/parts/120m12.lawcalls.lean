set_option maxRecDepth 20000 in
theorem gq_wsL_errors_r8 : GoodIn wsL_law wsL_errors_r8 := goodIn_r _ [204, 205, 300, 301, 302, 303, 304, 305, 306, 307, 308, 309, 297, 298, 299, 99, 100, 101, 102, 188, 189, 190, 191, 194] rfl (by decide +kernel)
set_option maxRecDepth 20000 in
theorem gq_wsL_errors_r9 : GoodIn wsL_law wsL_errors_r9 := goodIn_r _ [195, 196, 197, 223, 224, 225, 226, 227, 228, 229, 230, 231, 232, 233, 215, 216, 217, 218, 206, 207, 208, 209, 210, 211] rfl (by decide +kernel)
set_option maxRecDepth 20000 in
theorem gq_wsL_errors_r10 : GoodIn wsL_law wsL_errors_r10 := goodIn_r _ [212, 213, 214, 219, 220, 221, 222, 331, 332, 333, 334, 335, 336, 337, 338, 339, 340, 328, 329, 330, 341, 342, 343, 344] rfl (by decide +kernel)
set_option maxRecDepth 20000 in
theorem gq_wsL_errors_r11 : GoodIn wsL_law wsL_errors_r11 := goodIn_r _ [345, 346, 347, 348, 349, 350, 351, 352, 353, 354, 355, 356, 357, 358, 359, 360, 361, 362, 363, 364, 365, 366, 367, 368] rfl (by decide +kernel)
set_option maxRecDepth 20000 in
theorem gq_wsL_errors_r12 : GoodIn wsL_law wsL_errors_r12 := goodIn_r _ [369, 388, 389, 390, 391, 392, 393, 394, 395, 396, 397, 398, 381, 382, 383, 570, 571, 572, 573, 574, 575, 576, 577, 578] rfl (by decide +kernel)
set_option maxRecDepth 20000 in
theorem gq_wsL_errors_r13 : GoodIn wsL_law wsL_errors_r13 := goodIn_r _ [579, 580, 581, 500, 452, 417, 418, 419, 399, 400, 401, 402, 403, 404, 405, 406, 407, 408, 548, 549, 550, 551, 552, 553] rfl (by decide +kernel)
set_option maxRecDepth 20000 in
theorem gq_wsL_errors_r14 : GoodIn wsL_law wsL_errors_r14 := goodIn_r _ [554, 555, 438, 488, 489, 490, 491, 479, 480, 481, 482, 469, 470, 471, 472, 473, 474, 496, 497, 498, 499, 443, 501, 444] rfl (by decide +kernel)
set_option maxRecDepth 20000 in
theorem gq_wsL_errors_r15 : GoodIn wsL_law wsL_errors_r15 := goodIn_r _ [502, 503, 504, 505, 506, 462, 461, 463, 556, 557, 558, 559, 560, 561, 562, 563, 564, 565, 566, 423, 424, 425, 426, 427] rfl (by decide +kernel)
set_option maxRecDepth 20000 in
theorem gq_wsL_errors_r16 : GoodIn wsL_law wsL_errors_r16 := goodIn_r _ [428, 429, 430, 431, 432, 433, 434, 435, 436, 437, 439, 440, 441, 442, 445, 446, 447, 448, 449, 450, 451, 453, 454, 455] rfl (by decide +kernel)
