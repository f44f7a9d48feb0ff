set_option maxRecDepth 20000 in
theorem ggL_tick_X9_gate : GoodIn wsL_tick wsX9_gate := goodIn_r _ [5, 6, 7, 8, 9, 10, 11, 12, 13, 14, 15, 16, 17, 18, 19, 20, 21, 22, 23, 24, 25, 340, 341, 342, 343, 344, 345, 346, 347, 348, 349, 350, 351, 352, 353, 354, 355, 356, 357, 358, 359, 360, 361, 362, 363, 364, 365, 366, 367, 368, 369, 370, 371] rfl (by decide +kernel)
set_option maxRecDepth 20000 in
theorem gL_tick_X9_gate : GoodIn wsL_tick (wsV RL 19 RX9 yX9_gate wsX9_gate) := goodIn_app (goodIn_of _ (by decide +kernel)) ggL_tick_X9_gate
set_option maxRecDepth 20000 in
theorem ggL_tick_X9_queued : GoodIn wsL_tick wsX9_queued := goodIn_r _ [29, 6, 11, 13, 19, 20, 21, 22, 23, 24, 25, 30, 31, 32, 33, 34, 35, 36, 340, 341, 342, 343, 344, 345, 346, 347, 348, 349, 350, 351, 352, 353, 354, 355, 356, 357, 358, 361, 362, 363, 364, 365, 366, 367, 368, 369, 370, 371, 359, 360] rfl (by decide +kernel)
set_option maxRecDepth 20000 in
theorem gL_tick_X9_queued : GoodIn wsL_tick (wsV RL 22 RX9 yX9_queued wsX9_queued) := goodIn_app (goodIn_of _ (by decide +kernel)) ggL_tick_X9_queued
set_option maxRecDepth 20000 in
theorem ggL_tick_X9_person : GoodIn wsL_tick wsX9_person := goodIn_r _ [40, 6, 41, 42, 43, 44, 45, 46, 47, 48, 49, 50, 22, 51, 52, 53, 54, 55, 56, 57, 58, 59, 340, 341, 342, 343, 372, 373, 374, 375, 376, 377, 378, 361, 362, 363, 364, 365, 366, 367, 368, 369, 370, 371] rfl (by decide +kernel)
set_option maxRecDepth 20000 in
theorem gL_tick_X9_person : GoodIn wsL_tick (wsV RL 15 RX9 yX9_person wsX9_person) := goodIn_app (goodIn_of _ (by decide +kernel)) ggL_tick_X9_person
set_option maxRecDepth 20000 in
theorem ggL_tick_L_refusal : GoodIn wsL_tick wsL_refusal := goodIn_r _ [63, 37, 38, 39, 4, 40, 6, 41, 42, 43, 44, 45, 46, 47, 48, 49, 50, 22, 51, 52, 53, 54, 55, 56, 57, 58, 59, 64, 65, 66, 67, 68, 69, 70, 71, 72, 73, 74, 75, 76, 77, 78, 79, 80, 81, 82, 83, 84, 85, 86, 87, 88, 89, 90, 91, 92, 93, 94, 95, 96, 97, 98, 99, 100, 101, 102, 103, 104, 105, 106, 107, 108, 109, 110, 111, 24, 25, 112, 113, 114, 115, 116, 117, 118, 119, 120, 121, 122, 123, 124, 125, 126, 127, 128, 129, 340, 341, 342, 343, 372, 373, 374, 375, 376, 377, 378, 361, 362, 363, 364, 365, 366, 367, 368, 369, 370, 371, 379, 380, 381, 382, 383, 384, 385, 386, 387, 388, 389, 390, 391, 392, 393, 394, 395, 396, 344, 345, 346, 347, 348, 349, 350, 351, 352, 353, 354, 355, 356, 357, 358, 359, 360] rfl (by decide +kernel)
set_option maxRecDepth 20000 in
theorem gL_tick_L_refusal : GoodIn wsL_tick (va_wsS RL 32 yL_refusal wsL_refusal) := goodIn_app (goodIn_of _ (by decide +kernel)) ggL_tick_L_refusal
set_option maxRecDepth 20000 in
theorem ggL_tick_X9_passOf : GoodIn wsL_tick wsX9_passOf := goodIn_r _ [67, 6, 68, 69, 70, 71, 72, 73, 22, 74, 75, 76, 340, 341, 342, 343, 379, 380, 381, 361, 362, 363, 364, 365, 366, 367, 368, 369, 370, 371] rfl (by decide +kernel)
set_option maxRecDepth 20000 in
theorem gL_tick_X9_passOf : GoodIn wsL_tick (wsV RL 29 RX9 yX9_passOf wsX9_passOf) := goodIn_app (goodIn_of _ (by decide +kernel)) ggL_tick_X9_passOf
set_option maxRecDepth 20000 in
theorem ggL_tick_X9_pool : GoodIn wsL_tick wsX9_pool := goodIn_r _ [80, 6, 81, 82, 83, 84, 85, 86, 87, 88, 22, 89, 90, 91, 340, 341, 342, 343, 382, 383, 384, 385, 386, 361, 362, 363, 364, 365, 366, 367, 368, 369, 370, 371] rfl (by decide +kernel)
set_option maxRecDepth 20000 in
theorem gL_tick_X9_pool : GoodIn wsL_tick (wsV RL 26 RX9 yX9_pool wsX9_pool) := goodIn_app (goodIn_of _ (by decide +kernel)) ggL_tick_X9_pool
set_option maxRecDepth 20000 in
theorem ggL_tick_X9_count : GoodIn wsL_tick wsX9_count := goodIn_r _ [95, 6, 46, 96, 97, 98, 99, 100, 101, 102, 103, 104, 105, 22, 106, 52, 53, 107, 108, 109, 110, 111, 24, 25, 112, 113, 114, 115, 116, 90, 91, 117, 118, 119, 120, 121, 122, 123, 124, 125, 126, 127, 128, 129, 340, 341, 342, 343, 361, 362, 363, 364, 365, 366, 367, 368, 369, 370, 371, 387, 388, 389, 390, 391, 392, 393, 394, 395, 396, 372, 373, 374, 375, 376, 377, 378, 344, 345, 346, 347, 348, 349, 350, 351, 352, 353, 354, 355, 356, 357, 358, 382, 383, 384, 385, 386, 359, 360] rfl (by decide +kernel)
set_option maxRecDepth 20000 in
theorem gL_tick_X9_count : GoodIn wsL_tick (wsV RL 9 RX9 yX9_count wsX9_count) := goodIn_app (goodIn_of _ (by decide +kernel)) ggL_tick_X9_count
set_option maxRecDepth 20000 in
theorem ggL_tick_X9_pass : GoodIn wsL_tick wsX9_pass := goodIn_r _ [133, 99, 6, 134, 135, 136, 137, 138, 139, 140, 141, 142, 143, 144, 145, 146, 147, 148, 149, 150, 151, 152, 22, 153, 24, 25, 52, 53, 90, 91, 75, 76, 154, 155, 156, 157, 158, 159, 125, 160, 127, 129, 161, 162, 163, 164, 165, 166, 167, 168, 169, 170, 171, 172, 173, 174, 175, 176, 33, 177, 35, 36, 178, 179, 180, 181, 182, 183, 184, 185, 186, 187, 188, 57, 189, 190, 191, 59, 192, 193, 194, 195, 196, 197, 198, 199, 200, 201, 202, 203, 204, 205, 206, 207, 208, 209, 210, 211, 212, 213, 214, 215, 216, 217, 218, 219, 220, 221, 222, 223, 224, 225, 226, 227, 228, 229, 230, 4, 231, 232, 233, 234, 235, 236, 237, 238, 239, 240, 241, 242, 243, 244, 245, 112, 246, 107, 247, 248, 249, 250, 251, 252, 253, 254, 255, 256, 257, 31, 32, 34, 258, 49, 50, 51, 259, 260, 261, 262, 263, 264, 265, 266, 267, 268, 269, 270, 271, 272, 273, 72, 73, 74, 274, 87, 88, 89, 275, 276, 277, 278, 279, 280, 281, 282, 283, 284, 285, 286, 287, 288, 117, 289, 290, 291, 292, 293, 294, 295, 296, 297, 298, 299, 300, 301, 302, 303, 304, 305, 306, 307, 308, 309, 310, 311, 312, 313, 314, 315, 316, 317, 318, 319, 320, 321, 322, 323, 324, 325, 326, 327, 328, 329, 330, 340, 341, 342, 343, 387, 388, 389, 361, 362, 363, 364, 365, 366, 367, 368, 369, 370, 371, 344, 345, 346, 347, 348, 349, 350, 351, 352, 353, 354, 355, 356, 357, 358, 359, 360, 372, 373, 374, 375, 376, 377, 378, 382, 383, 384, 385, 386, 379, 380, 381, 397, 398, 399, 400, 401, 402] rfl (by decide +kernel)
set_option maxRecDepth 20000 in
theorem gL_tick_X9_pass : GoodIn wsL_tick (wsV RL 38 RX9 yX9_pass wsX9_pass) := goodIn_app (goodIn_of _ (by decide +kernel)) ggL_tick_X9_pass
set_option maxRecDepth 20000 in
theorem ggL_tick_X9_event : GoodIn wsL_tick wsX9_event := goodIn_r _ [334, 6, 335, 336, 337, 338, 217, 339, 224, 225, 219, 221, 222, 223, 284, 147, 148, 149, 340, 341, 342, 343, 361, 362, 363, 364, 365, 366, 367, 368, 369, 370, 371, 397, 398, 399, 400, 401, 402] rfl (by decide +kernel)
set_option maxRecDepth 20000 in
theorem gL_tick_X9_event : GoodIn wsL_tick (wsV RL 41 RX9 yX9_event wsX9_event) := goodIn_app (goodIn_of _ (by decide +kernel)) ggL_tick_X9_event
