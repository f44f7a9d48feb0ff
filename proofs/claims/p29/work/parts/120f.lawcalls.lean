set_option maxRecDepth 20000 in
theorem ggL_diverts_X9_gate : GoodIn wsL_diverts wsX9_gate := goodIn_r _ [5, 6, 7, 8, 9, 10, 11, 12, 13, 14, 15, 16, 17, 18, 19, 20, 21, 22, 23, 24, 25, 196, 197, 198, 199, 200, 201, 202, 203, 204, 205, 206, 207, 208, 209, 210, 211, 212, 213, 214, 215, 216, 217, 218, 219, 220, 221, 222, 223, 224, 225, 226, 227] rfl (by decide +kernel)
set_option maxRecDepth 20000 in
theorem gL_diverts_X9_gate : GoodIn wsL_diverts (wsV RL 19 RX9 yX9_gate wsX9_gate) := goodIn_app (goodIn_of _ (by decide +kernel)) ggL_diverts_X9_gate
set_option maxRecDepth 20000 in
theorem ggL_diverts_X9_queued : GoodIn wsL_diverts wsX9_queued := goodIn_r _ [29, 6, 11, 13, 19, 20, 21, 22, 23, 24, 25, 30, 31, 32, 33, 34, 35, 36, 196, 197, 198, 199, 200, 201, 202, 203, 204, 205, 206, 207, 208, 209, 210, 211, 212, 213, 214, 217, 218, 219, 220, 221, 222, 223, 224, 225, 226, 227, 215, 216] rfl (by decide +kernel)
set_option maxRecDepth 20000 in
theorem gL_diverts_X9_queued : GoodIn wsL_diverts (wsV RL 22 RX9 yX9_queued wsX9_queued) := goodIn_app (goodIn_of _ (by decide +kernel)) ggL_diverts_X9_queued
set_option maxRecDepth 20000 in
theorem ggL_diverts_X9_person : GoodIn wsL_diverts wsX9_person := goodIn_r _ [40, 6, 41, 42, 43, 44, 45, 46, 47, 48, 49, 50, 22, 51, 52, 53, 54, 55, 56, 57, 58, 59, 196, 197, 198, 199, 228, 229, 230, 231, 232, 233, 234, 217, 218, 219, 220, 221, 222, 223, 224, 225, 226, 227] rfl (by decide +kernel)
set_option maxRecDepth 20000 in
theorem gL_diverts_X9_person : GoodIn wsL_diverts (wsV RL 15 RX9 yX9_person wsX9_person) := goodIn_app (goodIn_of _ (by decide +kernel)) ggL_diverts_X9_person
set_option maxRecDepth 20000 in
theorem ggL_diverts_X9_divert : GoodIn wsL_diverts wsX9_divert := goodIn_r _ [63, 64, 6, 65, 66, 67, 68, 69, 70, 71, 72, 73, 74, 75, 76, 77, 78, 79, 80, 81, 82, 83, 22, 84, 24, 25, 52, 53, 85, 86, 87, 88, 89, 90, 91, 92, 93, 94, 95, 96, 97, 98, 99, 100, 101, 102, 103, 104, 105, 106, 107, 108, 109, 110, 111, 112, 113, 114, 33, 115, 35, 36, 116, 117, 118, 119, 120, 121, 122, 123, 124, 125, 126, 57, 127, 128, 129, 59, 130, 131, 132, 133, 134, 135, 136, 137, 138, 139, 140, 141, 142, 143, 144, 145, 146, 147, 148, 149, 150, 151, 152, 153, 154, 155, 156, 157, 158, 159, 160, 161, 162, 163, 164, 165, 166, 167, 168, 169, 170, 20, 21, 23, 171, 172, 173, 174, 175, 176, 177, 178, 179, 180, 181, 182, 31, 32, 34, 183, 49, 50, 51, 184, 185, 186, 187, 188, 189, 190, 4, 191, 192, 193, 194, 195, 196, 197, 198, 199, 235, 236, 237, 217, 218, 219, 220, 221, 222, 223, 224, 225, 226, 227, 200, 201, 202, 203, 204, 205, 206, 207, 208, 209, 210, 211, 212, 213, 214, 215, 216, 228, 229, 230, 231, 232, 233, 234, 238, 239, 240, 241, 242, 243, 244, 245, 246, 247, 248, 249, 250, 251] rfl (by decide +kernel)
set_option maxRecDepth 20000 in
theorem gL_diverts_X9_divert : GoodIn wsL_diverts (wsV RL 60 RX9 yX9_divert wsX9_divert) := goodIn_app (goodIn_of _ (by decide +kernel)) ggL_diverts_X9_divert
