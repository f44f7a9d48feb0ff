set_option maxRecDepth 20000 in
theorem ggL_orders_X9_count : GoodIn wsL_orders wsX9_count := goodIn_r _ [5, 6, 7, 8, 9, 10, 11, 12, 13, 14, 15, 16, 17, 18, 19, 20, 21, 22, 23, 24, 25, 26, 27, 28, 29, 30, 31, 32, 33, 34, 35, 36, 37, 38, 39, 40, 41, 42, 43, 44, 45, 46, 47, 48, 402, 403, 404, 405, 406, 407, 408, 409, 410, 411, 412, 413, 414, 415, 416, 417, 418, 419, 420, 421, 422, 423, 424, 425, 426, 427, 428, 429, 430, 431, 432, 433, 434, 435, 436, 437, 438, 439, 440, 441, 442, 443, 444, 445, 446, 447, 448, 449, 450, 451, 452, 453, 454, 455] rfl (by decide +kernel)
set_option maxRecDepth 20000 in
theorem gL_orders_X9_count : GoodIn wsL_orders (wsV RL 9 RX9 yX9_count wsX9_count) := goodIn_app (goodIn_of _ (by decide +kernel)) ggL_orders_X9_count
set_option maxRecDepth 20000 in
theorem ggL_orders_X9_clearText : GoodIn wsL_orders wsX9_clearText := goodIn_r _ [52, 13, 53, 54, 55, 56, 57, 58, 402, 403, 404, 405, 420, 421, 422, 423, 424, 425, 426] rfl (by decide +kernel)
set_option maxRecDepth 20000 in
theorem gL_orders_X9_clearText : GoodIn wsL_orders (wsV RL 67 RX9 yX9_clearText wsX9_clearText) := goodIn_app (goodIn_of _ (by decide +kernel)) ggL_orders_X9_clearText
set_option maxRecDepth 20000 in
theorem ggL_orders_X9_run : GoodIn wsL_orders wsX9_run := goodIn_r _ [62, 13, 6, 8, 11, 63, 64, 65, 56, 66, 67, 58, 68, 69, 70, 71, 72, 73, 74, 75, 76, 77, 78, 79, 80, 81, 82, 83, 84, 85, 86, 87, 88, 89, 90, 91, 92, 93, 94, 95, 96, 97, 98, 99, 100, 101, 102, 103, 104, 105, 106, 107, 108, 109, 110, 111, 112, 113, 114, 115, 116, 117, 118, 119, 18, 120, 27, 28, 20, 21, 34, 35, 121, 122, 123, 124, 125, 126, 127, 128, 44, 129, 46, 48, 130, 131, 132, 133, 134, 135, 136, 137, 138, 139, 140, 141, 142, 143, 144, 145, 146, 147, 148, 149, 150, 151, 152, 153, 154, 155, 156, 157, 158, 159, 160, 161, 162, 163, 164, 165, 166, 167, 168, 169, 170, 171, 172, 173, 174, 175, 176, 177, 178, 179, 180, 181, 182, 183, 184, 185, 186, 187, 188, 189, 190, 191, 192, 193, 194, 195, 196, 197, 198, 199, 200, 201, 202, 203, 204, 205, 206, 207, 208, 4, 209, 210, 211, 212, 213, 214, 215, 216, 217, 218, 219, 220, 221, 222, 223, 224, 225, 226, 227, 228, 229, 230, 231, 232, 233, 234, 235, 236, 237, 238, 239, 240, 241, 242, 22, 243, 244, 245, 246, 247, 248, 249, 250, 251, 252, 253, 254, 255, 256, 257, 258, 259, 260, 261, 262, 263, 264, 265, 266, 267, 268, 29, 269, 270, 271, 272, 273, 274, 275, 276, 277, 278, 279, 280, 281, 282, 283, 284, 285, 286, 287, 288, 289, 290, 291, 292, 293, 294, 295, 296, 297, 298, 299, 300, 301, 302, 303, 304, 305, 306, 307, 308, 309, 310, 311, 312, 313, 36, 314, 315, 316, 317, 318, 319, 320, 321, 322, 323, 324, 325, 326, 327, 328, 329, 330, 331, 332, 333, 334, 335, 336, 337, 338, 339, 340, 341, 342, 343, 344, 345, 346, 347, 348, 349, 350, 351, 352, 353, 354, 402, 403, 404, 405, 406, 407, 408, 409, 410, 411, 412, 413, 414, 415, 416, 420, 421, 422, 423, 424, 425, 426, 417, 418, 419, 434, 435, 436, 437, 438, 439, 440, 441, 442, 443, 444, 445, 446, 447, 448, 454, 455, 427, 428, 429, 430, 431, 432, 433, 449, 450, 451, 452, 453, 456, 457, 458, 459, 460, 461, 462, 463, 464] rfl (by decide +kernel)
set_option maxRecDepth 20000 in
theorem gL_orders_X9_run : GoodIn wsL_orders (wsV RL 70 RX9 yX9_run wsX9_run) := goodIn_app (goodIn_of _ (by decide +kernel)) ggL_orders_X9_run
set_option maxRecDepth 20000 in
theorem ggL_orders_X9_type : GoodIn wsL_orders wsX9_type := goodIn_r _ [358, 13, 359, 360, 361, 56, 362, 58, 81, 402, 403, 404, 405, 420, 421, 422, 423, 424, 425, 426] rfl (by decide +kernel)
set_option maxRecDepth 20000 in
theorem gL_orders_X9_type : GoodIn wsL_orders (wsV RL 63 RX9 yX9_type wsX9_type) := goodIn_app (goodIn_of _ (by decide +kernel)) ggL_orders_X9_type
set_option maxRecDepth 20000 in
theorem ggL_orders_L_digits : GoodIn wsL_orders wsL_digits := goodIn_r _ [366, 355, 356, 357, 4, 358, 13, 359, 360, 361, 56, 362, 58, 81, 402, 403, 404, 405, 420, 421, 422, 423, 424, 425, 426] rfl (by decide +kernel)
set_option maxRecDepth 20000 in
theorem gL_orders_L_digits : GoodIn wsL_orders (va_wsS RL 73 yL_digits wsL_digits) := goodIn_app (goodIn_of _ (by decide +kernel)) ggL_orders_L_digits
set_option maxRecDepth 20000 in
theorem ggL_orders_X9_passOf : GoodIn wsL_orders wsX9_passOf := goodIn_r _ [370, 6, 371, 372, 373, 374, 224, 225, 18, 226, 121, 122, 402, 403, 404, 405, 456, 457, 458, 406, 407, 408, 409, 410, 411, 412, 413, 414, 415, 416] rfl (by decide +kernel)
set_option maxRecDepth 20000 in
theorem gL_orders_X9_passOf : GoodIn wsL_orders (wsV RL 29 RX9 yX9_passOf wsX9_passOf) := goodIn_app (goodIn_of _ (by decide +kernel)) ggL_orders_X9_passOf
set_option maxRecDepth 20000 in
theorem ggL_orders_X9_person : GoodIn wsL_orders wsX9_person := goodIn_r _ [378, 6, 379, 380, 381, 382, 383, 7, 384, 385, 246, 247, 18, 248, 20, 21, 386, 387, 388, 161, 389, 165, 402, 403, 404, 405, 427, 428, 429, 430, 431, 432, 433, 406, 407, 408, 409, 410, 411, 412, 413, 414, 415, 416] rfl (by decide +kernel)
set_option maxRecDepth 20000 in
theorem gL_orders_X9_person : GoodIn wsL_orders (wsV RL 15 RX9 yX9_person wsX9_person) := goodIn_app (goodIn_of _ (by decide +kernel)) ggL_orders_X9_person
set_option maxRecDepth 20000 in
theorem ggL_orders_X9_undo : GoodIn wsL_orders wsX9_undo := goodIn_r _ [393, 11, 12, 6, 394, 395, 396, 104, 397, 107, 398, 399, 152, 400, 106, 108, 109, 110, 111, 112, 113, 114, 115, 116, 401, 118, 119, 18, 120, 27, 28, 20, 21, 34, 35, 121, 122, 123, 124, 125, 126, 127, 128, 44, 129, 46, 48, 130, 131, 132, 133, 134, 135, 136, 137, 138, 139, 140, 141, 142, 143, 144, 145, 146, 147, 148, 149, 150, 151, 153, 154, 155, 156, 157, 158, 159, 160, 161, 162, 163, 164, 165, 166, 167, 168, 169, 170, 171, 172, 173, 174, 175, 176, 177, 178, 179, 180, 181, 182, 183, 184, 185, 186, 187, 188, 189, 190, 191, 192, 193, 194, 195, 196, 197, 198, 199, 402, 403, 404, 405, 417, 418, 419, 406, 407, 408, 409, 410, 411, 412, 413, 414, 415, 416, 434, 435, 436, 437, 438, 439, 440, 441, 442, 443, 444, 445, 446, 447, 448, 454, 455, 427, 428, 429, 430, 431, 432, 433, 449, 450, 451, 452, 453, 456, 457, 458, 459, 460, 461, 462, 463, 464] rfl (by decide +kernel)
set_option maxRecDepth 20000 in
theorem gL_orders_X9_undo : GoodIn wsL_orders (wsV RL 47 RX9 yX9_undo wsX9_undo) := goodIn_app (goodIn_of _ (by decide +kernel)) ggL_orders_X9_undo
