set_option maxRecDepth 20000 in
theorem ggL_law_X9_undo : GoodIn wsL_law wsX9_undo := goodIn_r _ [776, 20, 777, 15, 778, 779, 780, 19, 781, 110, 782, 783, 152, 784, 86, 111, 112, 113, 114, 115, 116, 117, 118, 119, 785, 121, 122, 14, 123, 124, 30, 125, 32, 126, 34, 127, 36, 40, 128, 41, 129, 130, 131, 43, 132, 64, 65, 133, 134, 135, 136, 137, 138, 66, 139, 140, 141, 142, 143, 144, 145, 146, 147, 63, 148, 149, 70, 150, 151, 153, 154, 155, 156, 157, 158, 159, 160, 45, 161, 162, 163, 164, 165, 166, 167, 168, 169, 170, 171, 47, 172, 173, 174, 175, 176, 177, 178, 179, 180, 49, 181, 182, 183, 80, 184, 185, 186, 39, 187, 54, 188, 55, 56, 57, 189, 190, 931, 932, 933, 934, 956, 957, 958, 945, 946, 947, 948, 949, 950, 951, 952, 953, 954, 955, 972, 973, 974, 975, 976, 977, 978, 979, 980, 981, 982, 983, 984, 985, 986, 1002, 1003, 987, 988, 989, 990, 991, 992, 993, 994, 995, 996, 997, 998, 999, 1000, 1001, 966, 967, 968, 969, 970, 971] (by decide +kernel) (by decide +kernel)
set_option maxRecDepth 20000 in
theorem gL_law_X9_undo : GoodIn wsL_law (wsV RL 88 RX9 yX9_undo wsX9_undo) := goodIn_app (goodIn_of _ (by decide +kernel)) ggL_law_X9_undo
set_option maxRecDepth 20000 in
theorem ggL_law_X10_undo : GoodIn wsL_law wsX10_undo := goodIn_r _ [789, 233, 97, 99, 935, 936, 937, 938, 939, 940, 941, 942, 943, 944] (by decide +kernel) (by decide +kernel)
set_option maxRecDepth 20000 in
theorem gL_law_X10_undo : GoodIn wsL_law (wsV RL 91 RX10 yX10_undo wsX10_undo) := goodIn_app (goodIn_of _ (by decide +kernel)) ggL_law_X10_undo
set_option maxRecDepth 20000 in
theorem ggL_law_X9_gate : GoodIn wsL_law wsX9_gate := goodIn_r _ [793, 15, 794, 795, 796, 797, 798, 799, 800, 801, 802, 803, 804, 805, 806, 244, 245, 14, 246, 124, 30, 931, 932, 933, 934, 972, 973, 974, 975, 976, 977, 978, 979, 980, 981, 982, 983, 984, 985, 986, 1002, 1003, 945, 946, 947, 948, 949, 950, 951, 952, 953, 954, 955] (by decide +kernel) (by decide +kernel)
set_option maxRecDepth 20000 in
theorem gL_law_X9_gate : GoodIn wsL_law (wsV RL 92 RX9 yX9_gate wsX9_gate) := goodIn_app (goodIn_of _ (by decide +kernel)) ggL_law_X9_gate
set_option maxRecDepth 20000 in
theorem ggL_law_X10_gate : GoodIn wsL_law wsX10_gate := goodIn_r _ [810, 251, 252, 253, 5, 254, 97, 214, 215, 216, 255, 256, 257, 258, 418, 419, 420, 421, 422, 423, 424, 425, 414, 415, 416, 417, 935, 936, 937, 938, 939, 940, 941, 942, 943, 944] (by decide +kernel) (by decide +kernel)
set_option maxRecDepth 20000 in
theorem gL_law_X10_gate : GoodIn wsL_law (wsV RL 95 RX10 yX10_gate wsX10_gate) := goodIn_app (goodIn_of _ (by decide +kernel)) ggL_law_X10_gate
set_option maxRecDepth 20000 in
theorem ggL_law_X9_queued : GoodIn wsL_law wsX9_queued := goodIn_r _ [814, 15, 798, 800, 806, 244, 245, 14, 246, 124, 30, 815, 444, 445, 63, 446, 149, 70, 931, 932, 933, 934, 972, 973, 974, 975, 976, 977, 978, 979, 980, 981, 982, 983, 984, 985, 986, 945, 946, 947, 948, 949, 950, 951, 952, 953, 954, 955, 1002, 1003] (by decide +kernel) (by decide +kernel)
set_option maxRecDepth 20000 in
theorem gL_law_X9_queued : GoodIn wsL_law (wsV RL 96 RX9 yX9_queued wsX9_queued) := goodIn_app (goodIn_of _ (by decide +kernel)) ggL_law_X9_queued
set_option maxRecDepth 20000 in
theorem ggL_law_X10_queued : GoodIn wsL_law wsX10_queued := goodIn_r _ [819, 251, 252, 253, 5, 254, 97, 214, 215, 216, 451, 452, 453, 454, 422, 423, 424, 425, 414, 415, 416, 417, 935, 936, 937, 938, 939, 940, 941, 942, 943, 944] (by decide +kernel) (by decide +kernel)
set_option maxRecDepth 20000 in
theorem gL_law_X10_queued : GoodIn wsL_law (wsV RL 100 RX10 yX10_queued wsX10_queued) := goodIn_app (goodIn_of _ (by decide +kernel)) ggL_law_X10_queued
set_option maxRecDepth 20000 in
theorem ggL_law_X9_person : GoodIn wsL_law wsX9_person := goodIn_r _ [823, 15, 824, 825, 826, 827, 828, 829, 830, 831, 399, 400, 14, 401, 125, 32, 832, 833, 834, 45, 835, 164, 931, 932, 933, 934, 987, 988, 989, 990, 991, 992, 993, 945, 946, 947, 948, 949, 950, 951, 952, 953, 954, 955] (by decide +kernel) (by decide +kernel)
set_option maxRecDepth 20000 in
theorem gL_law_X9_person : GoodIn wsL_law (wsV RL 101 RX9 yX9_person wsX9_person) := goodIn_app (goodIn_of _ (by decide +kernel)) ggL_law_X9_person
set_option maxRecDepth 20000 in
theorem ggL_law_X10_person : GoodIn wsL_law wsX10_person := goodIn_r _ [839, 410, 411, 412, 5, 413, 97, 214, 215, 216, 414, 415, 416, 417, 633, 634, 635, 636, 935, 936, 937, 938, 939, 940, 941, 942, 943, 944] (by decide +kernel) (by decide +kernel)
set_option maxRecDepth 20000 in
theorem gL_law_X10_person : GoodIn wsL_law (wsV RL 104 RX10 yX10_person wsX10_person) := goodIn_app (goodIn_of _ (by decide +kernel)) ggL_law_X10_person
set_option maxRecDepth 20000 in
theorem ggL_law_X9_pool : GoodIn wsL_law wsX9_pool := goodIn_r _ [843, 15, 844, 845, 846, 847, 848, 849, 287, 288, 14, 289, 126, 34, 931, 932, 933, 934, 994, 995, 996, 997, 998, 945, 946, 947, 948, 949, 950, 951, 952, 953, 954, 955] (by decide +kernel) (by decide +kernel)
set_option maxRecDepth 20000 in
theorem gL_law_X9_pool : GoodIn wsL_law (wsV RL 105 RX9 yX9_pool wsX9_pool) := goodIn_app (goodIn_of _ (by decide +kernel)) ggL_law_X9_pool
