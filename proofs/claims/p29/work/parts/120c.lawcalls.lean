set_option maxRecDepth 20000 in
theorem ggL_pools_X9_count : GoodIn wsL_pools wsX9_count := goodIn_r _ [5, 6, 7, 8, 9, 10, 11, 12, 13, 14, 15, 16, 17, 18, 19, 20, 21, 22, 23, 24, 25, 26, 27, 28, 29, 30, 31, 32, 33, 34, 35, 36, 37, 38, 39, 40, 41, 42, 43, 44, 45, 46, 47, 48, 95, 96, 97, 98, 99, 100, 101, 102, 103, 104, 105, 106, 107, 108, 109, 110, 111, 112, 113, 114, 115, 116, 117, 118, 119, 120, 121, 122, 123, 124, 125, 126, 127, 128, 129, 130, 131, 132, 133, 134, 135, 136, 137, 138, 139, 140, 141, 142, 143, 144, 145, 146, 147, 148] rfl (by decide +kernel)
set_option maxRecDepth 20000 in
theorem gL_pools_X9_count : GoodIn wsL_pools (wsV RL 9 RX9 yX9_count wsX9_count) := goodIn_app (goodIn_of _ (by decide +kernel)) ggL_pools_X9_count
set_option maxRecDepth 20000 in
theorem ggL_pools_X9_pool : GoodIn wsL_pools wsX9_pool := goodIn_r _ [52, 6, 53, 54, 55, 56, 57, 58, 59, 60, 18, 61, 34, 35, 95, 96, 97, 98, 142, 143, 144, 145, 146, 99, 100, 101, 102, 103, 104, 105, 106, 107, 108, 109] rfl (by decide +kernel)
set_option maxRecDepth 20000 in
theorem gL_pools_X9_pool : GoodIn wsL_pools (wsV RL 26 RX9 yX9_pool wsX9_pool) := goodIn_app (goodIn_of _ (by decide +kernel)) ggL_pools_X9_pool
set_option maxRecDepth 20000 in
theorem ggL_pools_X9_person : GoodIn wsL_pools wsX9_person := goodIn_r _ [65, 6, 66, 67, 68, 69, 70, 7, 71, 72, 73, 74, 18, 75, 20, 21, 76, 77, 78, 79, 80, 81, 95, 96, 97, 98, 120, 121, 122, 123, 124, 125, 126, 99, 100, 101, 102, 103, 104, 105, 106, 107, 108, 109] rfl (by decide +kernel)
set_option maxRecDepth 20000 in
theorem gL_pools_X9_person : GoodIn wsL_pools (wsV RL 15 RX9 yX9_person wsX9_person) := goodIn_app (goodIn_of _ (by decide +kernel)) ggL_pools_X9_person
set_option maxRecDepth 20000 in
theorem ggL_pools_X9_passOf : GoodIn wsL_pools wsX9_passOf := goodIn_r _ [85, 6, 86, 87, 88, 89, 90, 91, 18, 92, 93, 94, 95, 96, 97, 98, 149, 150, 151, 99, 100, 101, 102, 103, 104, 105, 106, 107, 108, 109] rfl (by decide +kernel)
set_option maxRecDepth 20000 in
theorem gL_pools_X9_passOf : GoodIn wsL_pools (wsV RL 29 RX9 yX9_passOf wsX9_passOf) := goodIn_app (goodIn_of _ (by decide +kernel)) ggL_pools_X9_passOf
set_option maxRecDepth 20000 in
theorem ggL_people_X9_count : GoodIn wsL_people wsX9_count := goodIn_r _ [6, 7, 8, 9, 10, 11, 12, 13, 14, 15, 16, 17, 18, 19, 20, 21, 22, 23, 24, 25, 26, 27, 28, 29, 30, 31, 32, 33, 34, 35, 36, 37, 38, 39, 40, 41, 42, 43, 44, 45, 46, 47, 48, 49, 101, 102, 103, 104, 105, 106, 107, 108, 109, 110, 111, 112, 113, 114, 115, 116, 117, 118, 119, 120, 121, 122, 123, 124, 125, 126, 127, 128, 129, 130, 131, 132, 133, 134, 135, 136, 137, 138, 139, 140, 141, 142, 143, 144, 145, 146, 147, 148, 149, 150, 151, 152, 153, 154] rfl (by decide +kernel)
set_option maxRecDepth 20000 in
theorem gL_people_X9_count : GoodIn wsL_people (wsV RL 9 RX9 yX9_count wsX9_count) := goodIn_app (goodIn_of _ (by decide +kernel)) ggL_people_X9_count
set_option maxRecDepth 20000 in
theorem ggL_people_X9_person : GoodIn wsL_people wsX9_person := goodIn_r _ [53, 7, 54, 55, 56, 57, 58, 8, 59, 60, 61, 62, 19, 63, 21, 22, 64, 65, 66, 67, 68, 69, 101, 102, 103, 104, 126, 127, 128, 129, 130, 131, 132, 105, 106, 107, 108, 109, 110, 111, 112, 113, 114, 115] rfl (by decide +kernel)
set_option maxRecDepth 20000 in
theorem gL_people_X9_person : GoodIn wsL_people (wsV RL 15 RX9 yX9_person wsX9_person) := goodIn_app (goodIn_of _ (by decide +kernel)) ggL_people_X9_person
set_option maxRecDepth 20000 in
theorem ggL_people_X9_gate : GoodIn wsL_people wsX9_gate := goodIn_r _ [73, 7, 74, 75, 76, 77, 78, 79, 80, 81, 82, 83, 84, 85, 86, 87, 88, 19, 89, 28, 29, 101, 102, 103, 104, 133, 134, 135, 136, 137, 138, 139, 140, 141, 142, 143, 144, 145, 146, 147, 153, 154, 105, 106, 107, 108, 109, 110, 111, 112, 113, 114, 115] rfl (by decide +kernel)
set_option maxRecDepth 20000 in
theorem gL_people_X9_gate : GoodIn wsL_people (wsV RL 19 RX9 yX9_gate wsX9_gate) := goodIn_app (goodIn_of _ (by decide +kernel)) ggL_people_X9_gate
set_option maxRecDepth 20000 in
theorem ggL_people_X9_queued : GoodIn wsL_people wsX9_queued := goodIn_r _ [93, 7, 78, 80, 86, 87, 88, 19, 89, 28, 29, 94, 95, 96, 97, 98, 99, 100, 101, 102, 103, 104, 133, 134, 135, 136, 137, 138, 139, 140, 141, 142, 143, 144, 145, 146, 147, 105, 106, 107, 108, 109, 110, 111, 112, 113, 114, 115, 153, 154] rfl (by decide +kernel)
set_option maxRecDepth 20000 in
theorem gL_people_X9_queued : GoodIn wsL_people (wsV RL 22 RX9 yX9_queued wsX9_queued) := goodIn_app (goodIn_of _ (by decide +kernel)) ggL_people_X9_queued
