set_option maxRecDepth 20000 in
theorem ggL_digits_X9_type : GoodIn wsL_digits wsX9_type := goodIn_r _ [5, 6, 7, 8, 9, 10, 11, 12, 13, 14, 15, 16, 17, 18, 19, 20, 21, 22, 23, 24] rfl (by decide +kernel)
set_option maxRecDepth 20000 in
theorem gL_digits_X9_type : GoodIn wsL_digits (wsV RL 63 RX9 yX9_type wsX9_type) := goodIn_app (goodIn_of _ (by decide +kernel)) ggL_digits_X9_type
set_option maxRecDepth 20000 in
theorem ggL_refusal_X9_person : GoodIn wsL_refusal wsX9_person := goodIn_r _ [5, 6, 7, 8, 9, 10, 11, 12, 13, 14, 15, 16, 17, 18, 19, 20, 21, 22, 23, 24, 25, 26, 95, 96, 97, 98, 99, 100, 101, 102, 103, 104, 105, 106, 107, 108, 109, 110, 111, 112, 113, 114, 115, 116] rfl (by decide +kernel)
set_option maxRecDepth 20000 in
theorem gL_refusal_X9_person : GoodIn wsL_refusal (wsV RL 15 RX9 yX9_person wsX9_person) := goodIn_app (goodIn_of _ (by decide +kernel)) ggL_refusal_X9_person
set_option maxRecDepth 20000 in
theorem ggL_refusal_X9_passOf : GoodIn wsL_refusal wsX9_passOf := goodIn_r _ [30, 6, 31, 32, 33, 34, 35, 36, 17, 37, 38, 39, 95, 96, 97, 98, 117, 118, 119, 106, 107, 108, 109, 110, 111, 112, 113, 114, 115, 116] rfl (by decide +kernel)
set_option maxRecDepth 20000 in
theorem gL_refusal_X9_passOf : GoodIn wsL_refusal (wsV RL 29 RX9 yX9_passOf wsX9_passOf) := goodIn_app (goodIn_of _ (by decide +kernel)) ggL_refusal_X9_passOf
set_option maxRecDepth 20000 in
theorem ggL_refusal_X9_pool : GoodIn wsL_refusal wsX9_pool := goodIn_r _ [43, 6, 44, 45, 46, 47, 48, 49, 50, 51, 17, 52, 53, 54, 95, 96, 97, 98, 120, 121, 122, 123, 124, 106, 107, 108, 109, 110, 111, 112, 113, 114, 115, 116] rfl (by decide +kernel)
set_option maxRecDepth 20000 in
theorem gL_refusal_X9_pool : GoodIn wsL_refusal (wsV RL 26 RX9 yX9_pool wsX9_pool) := goodIn_app (goodIn_of _ (by decide +kernel)) ggL_refusal_X9_pool
set_option maxRecDepth 20000 in
theorem ggL_refusal_X9_count : GoodIn wsL_refusal wsX9_count := goodIn_r _ [58, 6, 12, 59, 60, 61, 62, 63, 64, 65, 66, 67, 68, 17, 69, 19, 20, 70, 71, 72, 73, 74, 75, 76, 77, 78, 79, 80, 81, 53, 54, 82, 83, 84, 85, 86, 87, 88, 89, 90, 91, 92, 93, 94, 95, 96, 97, 98, 106, 107, 108, 109, 110, 111, 112, 113, 114, 115, 116, 125, 126, 127, 128, 129, 130, 131, 132, 133, 134, 99, 100, 101, 102, 103, 104, 105, 135, 136, 137, 138, 139, 140, 141, 142, 143, 144, 145, 146, 147, 148, 149, 120, 121, 122, 123, 124, 150, 151] rfl (by decide +kernel)
set_option maxRecDepth 20000 in
theorem gL_refusal_X9_count : GoodIn wsL_refusal (wsV RL 9 RX9 yX9_count wsX9_count) := goodIn_app (goodIn_of _ (by decide +kernel)) ggL_refusal_X9_count
