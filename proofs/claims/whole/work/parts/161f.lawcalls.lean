set_option maxRecDepth 20000 in
theorem ggL_law_X10_pool : GoodIn wsL_law wsX10_pool := goodIn_r _ [853, 97, 296, 297, 298, 5, 299, 214, 215, 216, 645, 646, 647, 648, 649, 650, 651, 652, 414, 415, 416, 417, 935, 936, 937, 938, 939, 940, 941, 942, 943, 944] (by decide +kernel) (by decide +kernel)
set_option maxRecDepth 20000 in
theorem gL_law_X10_pool : GoodIn wsL_law (wsV RL 108 RX10 yX10_pool wsX10_pool) := goodIn_app (goodIn_of _ (by decide +kernel)) ggL_law_X10_pool
set_option maxRecDepth 20000 in
theorem ggL_law_X9_passOf : GoodIn wsL_law wsX9_passOf := goodIn_r _ [857, 15, 858, 859, 860, 861, 327, 328, 14, 329, 127, 36, 931, 932, 933, 934, 999, 1000, 1001, 945, 946, 947, 948, 949, 950, 951, 952, 953, 954, 955] (by decide +kernel) (by decide +kernel)
set_option maxRecDepth 20000 in
theorem gL_law_X9_passOf : GoodIn wsL_law (wsV RL 109 RX9 yX9_passOf wsX9_passOf) := goodIn_app (goodIn_of _ (by decide +kernel)) ggL_law_X9_passOf
set_option maxRecDepth 20000 in
theorem ggL_law_X10_passOf : GoodIn wsL_law wsX10_passOf := goodIn_r _ [865, 97, 334, 335, 336, 5, 337, 214, 215, 216, 641, 642, 643, 644, 414, 415, 416, 417, 935, 936, 937, 938, 939, 940, 941, 942, 943, 944] (by decide +kernel) (by decide +kernel)
set_option maxRecDepth 20000 in
theorem gL_law_X10_passOf : GoodIn wsL_law (wsV RL 112 RX10 yX10_passOf wsX10_passOf) := goodIn_app (goodIn_of _ (by decide +kernel)) ggL_law_X10_passOf
set_option maxRecDepth 20000 in
theorem ggL_law_X9_event : GoodIn wsL_law wsX9_event := goodIn_r _ [869, 15, 870, 871, 872, 873, 39, 874, 189, 190, 54, 55, 56, 57, 495, 117, 118, 119, 931, 932, 933, 934, 945, 946, 947, 948, 949, 950, 951, 952, 953, 954, 955, 966, 967, 968, 969, 970, 971] (by decide +kernel) (by decide +kernel)
set_option maxRecDepth 20000 in
theorem gL_law_X9_event : GoodIn wsL_law (wsV RL 113 RX9 yX9_event wsX9_event) := goodIn_app (goodIn_of _ (by decide +kernel)) ggL_law_X9_event
set_option maxRecDepth 20000 in
theorem ggL_law_X10_event : GoodIn wsL_law wsX10_event := goodIn_r _ [878, 97, 214, 215, 5, 216, 935, 936, 937, 938, 939, 940, 941, 942, 943, 944] (by decide +kernel) (by decide +kernel)
set_option maxRecDepth 20000 in
theorem gL_law_X10_event : GoodIn wsL_law (wsV RL 116 RX10 yX10_event wsX10_event) := goodIn_app (goodIn_of _ (by decide +kernel)) ggL_law_X10_event
set_option maxRecDepth 20000 in
theorem ggL_law_X9_passesIn : GoodIn wsL_law wsX9_passesIn := goodIn_r _ [882, 15, 824, 16, 831, 399, 400, 14, 401, 125, 32, 832, 833, 834, 45, 835, 164, 785, 121, 122, 123, 124, 30, 126, 34, 127, 36, 40, 128, 41, 129, 130, 131, 43, 132, 64, 65, 133, 134, 135, 136, 137, 138, 66, 139, 140, 141, 142, 143, 144, 145, 146, 147, 63, 148, 149, 70, 150, 151, 152, 153, 154, 155, 156, 157, 158, 159, 160, 161, 162, 163, 165, 166, 167, 168, 169, 170, 171, 47, 172, 173, 174, 175, 176, 177, 178, 179, 180, 49, 181, 182, 183, 80, 184, 185, 186, 39, 187, 54, 188, 55, 56, 57, 189, 190, 883, 884, 885, 886, 395, 398, 887, 551, 552, 553, 195, 2, 196, 554, 555, 556, 557, 463, 558, 559, 560, 481, 561, 562, 563, 564, 500, 565, 502, 566, 567, 568, 569, 570, 571, 242, 358, 396, 572, 443, 444, 445, 446, 573, 574, 575, 576, 577, 578, 579, 580, 509, 325, 508, 510, 581, 284, 326, 327, 328, 329, 286, 287, 288, 289, 582, 583, 584, 585, 490, 491, 492, 493, 494, 495, 117, 118, 119, 586, 587, 588, 589, 590, 486, 487, 488, 489, 591, 592, 593, 594, 464, 595, 482, 483, 484, 485, 596, 597, 598, 599, 496, 497, 498, 499, 442, 501, 503, 504, 505, 506, 507, 600, 601, 602, 603, 604, 931, 932, 933, 934, 987, 988, 989, 990, 991, 992, 993, 945, 946, 947, 948, 949, 950, 951, 952, 953, 954, 955, 972, 973, 974, 975, 976, 977, 978, 979, 980, 981, 982, 983, 984, 985, 986, 1002, 1003, 994, 995, 996, 997, 998, 999, 1000, 1001, 966, 967, 968, 969, 970, 971] (by decide +kernel) (by decide +kernel)
set_option maxRecDepth 20000 in
theorem gL_law_X9_passesIn : GoodIn wsL_law (wsV RL 117 RX9 yX9_passesIn wsX9_passesIn) := goodIn_app (goodIn_of _ (by decide +kernel)) ggL_law_X9_passesIn
set_option maxRecDepth 20000 in
theorem ggL_law_X10_passesIn : GoodIn wsL_law wsX10_passesIn := goodIn_r _ [891, 410, 411, 412, 5, 413, 97, 214, 215, 216, 414, 415, 416, 417, 217, 218, 219, 220, 98, 617, 618, 619, 620, 621, 622, 623, 624, 255, 256, 257, 258, 625, 626, 627, 628, 629, 630, 631, 632, 451, 452, 453, 454, 422, 423, 424, 425, 633, 634, 635, 636, 637, 638, 639, 640, 641, 642, 643, 644, 645, 646, 647, 648, 649, 650, 651, 652, 379, 380, 381, 382, 221, 222, 223, 224, 522, 523, 524, 525, 542, 543, 544, 545, 653, 654, 655, 656, 518, 519, 520, 521, 526, 527, 528, 529, 657, 658, 659, 660, 892, 893, 894, 895, 935, 936, 937, 938, 939, 940, 941, 942, 943, 944] (by decide +kernel) (by decide +kernel)
set_option maxRecDepth 20000 in
theorem gL_law_X10_passesIn : GoodIn wsL_law (wsV RL 120 RX10 yX10_passesIn wsX10_passesIn) := goodIn_app (goodIn_of _ (by decide +kernel)) ggL_law_X10_passesIn
set_option maxRecDepth 20000 in
theorem ggL_law_X9_count : GoodIn wsL_law wsX9_count := goodIn_r _ [899, 15, 829, 691, 900, 901, 20, 777, 24, 902, 903, 904, 905, 14, 906, 125, 32, 395, 907, 908, 909, 910, 124, 30, 565, 911, 912, 913, 914, 126, 34, 590, 915, 916, 917, 918, 434, 435, 436, 43, 437, 64, 201, 65, 931, 932, 933, 934, 945, 946, 947, 948, 949, 950, 951, 952, 953, 954, 955, 956, 957, 958, 959, 960, 961, 962, 963, 964, 965, 987, 988, 989, 990, 991, 992, 993, 972, 973, 974, 975, 976, 977, 978, 979, 980, 981, 982, 983, 984, 985, 986, 994, 995, 996, 997, 998, 1002, 1003] (by decide +kernel) (by decide +kernel)
set_option maxRecDepth 20000 in
theorem gL_law_X9_count : GoodIn wsL_law (wsV RL 121 RX9 yX9_count wsX9_count) := goodIn_app (goodIn_of _ (by decide +kernel)) ggL_law_X9_count
set_option maxRecDepth 20000 in
theorem ggL_law_X10_count : GoodIn wsL_law wsX10_count := goodIn_r _ [922, 97, 233, 674, 255, 256, 257, 5, 258, 923, 924, 925, 926, 414, 415, 416, 417, 214, 215, 216, 927, 928, 929, 930, 418, 419, 420, 421, 422, 423, 424, 425, 935, 936, 937, 938, 939, 940, 941, 942, 943, 944] (by decide +kernel) (by decide +kernel)
set_option maxRecDepth 20000 in
theorem gL_law_X10_count : GoodIn wsL_law (wsV RL 124 RX10 yX10_count wsX10_count) := goodIn_app (goodIn_of _ (by decide +kernel)) ggL_law_X10_count
