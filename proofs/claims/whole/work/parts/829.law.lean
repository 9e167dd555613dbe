set_option maxRecDepth 20000 in
theorem ggL_law_X2_init : GoodIn wsL_law wsX2_init := goodIn_r _ [8, 9, 10, 11, 12, 13, 14, 15, 16, 17, 18, 19, 20, 21, 22, 23, 24, 25, 26, 27, 28, 29, 30, 31, 32, 33, 34, 457, 443, 444, 445, 458, 459, 460, 461] (by decide +kernel) (by decide +kernel)
set_option maxRecDepth 20000 in
theorem gL_law_X2_init : GoodIn wsL_law (wsX2_init) := ggL_law_X2_init
set_option maxRecDepth 20000 in
theorem ggL_law_X3_init : GoodIn wsL_law wsX3_init := goodIn_r _ [37, 38, 10, 11, 30, 39, 40, 41, 42, 43, 44, 45, 46, 47, 48, 49, 446, 447, 448, 449, 450, 451, 452, 453, 454, 455, 456] (by decide +kernel) (by decide +kernel)
set_option maxRecDepth 20000 in
theorem gL_law_X3_init : GoodIn wsL_law (wsX3_init) := ggL_law_X3_init
set_option maxRecDepth 20000 in
theorem ggL_law_X2_point : GoodIn wsL_law wsX2_point := goodIn_r _ [53, 15, 54, 55, 56, 14, 57, 23, 58, 2, 59, 60, 61, 62, 63, 64, 65, 66, 25, 67, 33, 31, 32, 443, 444, 445, 458, 459, 460, 461, 457] (by decide +kernel) (by decide +kernel)
set_option maxRecDepth 20000 in
theorem gL_law_X2_point : GoodIn wsL_law (wsV RL 13 RX2 yX2_point wsX2_point) := goodIn_app (goodIn_of _ (by decide +kernel)) ggL_law_X2_point
set_option maxRecDepth 20000 in
theorem ggL_law_X3_point : GoodIn wsL_law wsX3_point := goodIn_r _ [71, 39, 72, 73, 5, 74, 75, 76, 77, 78, 79, 80, 81, 82, 83, 446, 447, 448, 449, 450, 451, 452, 453, 454, 455, 456] (by decide +kernel) (by decide +kernel)
set_option maxRecDepth 20000 in
theorem gL_law_X3_point : GoodIn wsL_law (wsV RL 17 RX3 yX3_point wsX3_point) := goodIn_app (goodIn_of _ (by decide +kernel)) ggL_law_X3_point
set_option maxRecDepth 20000 in
theorem ggL_law_X2_pop : GoodIn wsL_law wsX2_pop := goodIn_r _ [87, 15, 54, 55, 56, 14, 57, 23, 58, 2, 59, 443, 444, 445, 458, 459, 460, 461, 457] (by decide +kernel) (by decide +kernel)
set_option maxRecDepth 20000 in
theorem gL_law_X2_pop : GoodIn wsL_law (wsV RL 18 RX2 yX2_pop wsX2_pop) := goodIn_app (goodIn_of _ (by decide +kernel)) ggL_law_X2_pop
set_option maxRecDepth 20000 in
theorem ggL_law_X3_pop : GoodIn wsL_law wsX3_pop := goodIn_r _ [91, 39, 72, 73, 5, 74, 75, 76, 77, 446, 447, 448, 449, 450, 451, 452, 453, 454, 455, 456] (by decide +kernel) (by decide +kernel)
set_option maxRecDepth 20000 in
theorem gL_law_X3_pop : GoodIn wsL_law (wsV RL 22 RX3 yX3_pop wsX3_pop) := goodIn_app (goodIn_of _ (by decide +kernel)) ggL_law_X3_pop
set_option maxRecDepth 20000 in
theorem ggL_law_X2_set : GoodIn wsL_law wsX2_set := goodIn_r _ [95, 15, 54, 55, 56, 14, 57, 23, 58, 2, 59, 96, 97, 98, 25, 99, 33, 60, 61, 62, 63, 443, 444, 445, 458, 459, 460, 461, 457] (by decide +kernel) (by decide +kernel)
set_option maxRecDepth 20000 in
theorem gL_law_X2_set : GoodIn wsL_law (wsV RL 23 RX2 yX2_set wsX2_set) := goodIn_app (goodIn_of _ (by decide +kernel)) ggL_law_X2_set
set_option maxRecDepth 20000 in
theorem ggL_law_X3_set : GoodIn wsL_law wsX3_set := goodIn_r _ [103, 39, 72, 73, 5, 74, 75, 76, 77, 104, 105, 106, 107, 78, 79, 80, 81, 82, 83, 446, 447, 448, 449, 450, 451, 452, 453, 454, 455, 456] (by decide +kernel) (by decide +kernel)
set_option maxRecDepth 20000 in
theorem gL_law_X3_set : GoodIn wsL_law (wsV RL 27 RX3 yX3_set wsX3_set) := goodIn_app (goodIn_of _ (by decide +kernel)) ggL_law_X3_set
set_option maxRecDepth 20000 in
theorem ggL_law_X2_rule : GoodIn wsL_law wsX2_rule := goodIn_r _ [111, 15, 54, 55, 56, 14, 57, 23, 58, 2, 59, 63, 443, 444, 445, 458, 459, 460, 461, 457] (by decide +kernel) (by decide +kernel)
set_option maxRecDepth 20000 in
theorem gL_law_X2_rule : GoodIn wsL_law (wsV RL 28 RX2 yX2_rule wsX2_rule) := goodIn_app (goodIn_of _ (by decide +kernel)) ggL_law_X2_rule
set_option maxRecDepth 20000 in
theorem ggL_law_X3_rule : GoodIn wsL_law wsX3_rule := goodIn_r _ [115, 39, 72, 73, 5, 74, 75, 76, 77, 446, 447, 448, 449, 450, 451, 452, 453, 454, 455, 456] (by decide +kernel) (by decide +kernel)
set_option maxRecDepth 20000 in
theorem gL_law_X3_rule : GoodIn wsL_law (wsV RL 32 RX3 yX3_rule wsX3_rule) := goodIn_app (goodIn_of _ (by decide +kernel)) ggL_law_X3_rule
set_option maxRecDepth 20000 in
theorem ggL_law_X2_move : GoodIn wsL_law wsX2_move := goodIn_r _ [119, 15, 54, 55, 56, 14, 57, 23, 58, 2, 59, 63, 120, 121, 122, 25, 123, 33, 31, 32, 61, 62, 124, 125, 126, 127, 443, 444, 445, 458, 459, 460, 461, 457] (by decide +kernel) (by decide +kernel)
set_option maxRecDepth 20000 in
theorem gL_law_X2_move : GoodIn wsL_law (wsV RL 33 RX2 yX2_move wsX2_move) := goodIn_app (goodIn_of _ (by decide +kernel)) ggL_law_X2_move
set_option maxRecDepth 20000 in
theorem ggL_law_X3_move : GoodIn wsL_law wsX3_move := goodIn_r _ [131, 39, 72, 73, 5, 74, 75, 76, 77, 132, 133, 134, 135, 81, 82, 83, 78, 79, 80, 446, 447, 448, 449, 450, 451, 452, 453, 454, 455, 456] (by decide +kernel) (by decide +kernel)
set_option maxRecDepth 20000 in
theorem gL_law_X3_move : GoodIn wsL_law (wsV RL 36 RX3 yX3_move wsX3_move) := goodIn_app (goodIn_of _ (by decide +kernel)) ggL_law_X3_move
set_option maxRecDepth 20000 in
theorem ggL_law_X2_back : GoodIn wsL_law wsX2_back := goodIn_r _ [139, 15, 54, 55, 56, 14, 57, 23, 58, 2, 59, 140, 141, 142, 25, 143, 144, 145, 146, 147, 31, 32, 443, 444, 445, 458, 459, 460, 461, 457] (by decide +kernel) (by decide +kernel)
set_option maxRecDepth 20000 in
theorem gL_law_X2_back : GoodIn wsL_law (wsV RL 37 RX2 yX2_back wsX2_back) := goodIn_app (goodIn_of _ (by decide +kernel)) ggL_law_X2_back
set_option maxRecDepth 20000 in
theorem ggL_law_X3_back : GoodIn wsL_law wsX3_back := goodIn_r _ [151, 39, 72, 73, 5, 74, 75, 76, 77, 152, 153, 154, 155, 43, 44, 81, 82, 83, 156, 157, 158, 159, 446, 447, 448, 449, 450, 451, 452, 453, 454, 455, 456] (by decide +kernel) (by decide +kernel)
set_option maxRecDepth 20000 in
theorem gL_law_X3_back : GoodIn wsL_law (wsV RL 40 RX3 yX3_back wsX3_back) := goodIn_app (goodIn_of _ (by decide +kernel)) ggL_law_X3_back
set_option maxRecDepth 20000 in
theorem ggL_law_X2_begin : GoodIn wsL_law wsX2_begin := goodIn_r _ [163, 15, 54, 55, 56, 14, 57, 23, 58, 2, 59, 96, 97, 98, 25, 99, 33, 164, 165, 166, 167, 168, 141, 142, 143, 144, 145, 146, 147, 31, 32, 443, 444, 445, 458, 459, 460, 461, 457] (by decide +kernel) (by decide +kernel)
set_option maxRecDepth 20000 in
theorem gL_law_X2_begin : GoodIn wsL_law (wsV RL 41 RX2 yX2_begin wsX2_begin) := goodIn_app (goodIn_of _ (by decide +kernel)) ggL_law_X2_begin
set_option maxRecDepth 20000 in
theorem ggL_law_X3_begin : GoodIn wsL_law wsX3_begin := goodIn_r _ [172, 39, 72, 73, 5, 74, 75, 76, 77, 104, 105, 106, 107, 152, 153, 154, 155, 43, 44, 81, 82, 83, 156, 157, 158, 159, 446, 447, 448, 449, 450, 451, 452, 453, 454, 455, 456] (by decide +kernel) (by decide +kernel)
set_option maxRecDepth 20000 in
theorem gL_law_X3_begin : GoodIn wsL_law (wsV RL 44 RX3 yX3_begin wsX3_begin) := goodIn_app (goodIn_of _ (by decide +kernel)) ggL_law_X3_begin
set_option maxRecDepth 20000 in
theorem ggL_law_X2_at : GoodIn wsL_law wsX2_at := goodIn_r _ [176, 15, 54, 55, 56, 14, 57, 23, 58, 2, 59, 96, 97, 98, 25, 99, 33, 63, 443, 444, 445, 458, 459, 460, 461, 457] (by decide +kernel) (by decide +kernel)
set_option maxRecDepth 20000 in
theorem gL_law_X2_at : GoodIn wsL_law (wsV RL 45 RX2 yX2_at wsX2_at) := goodIn_app (goodIn_of _ (by decide +kernel)) ggL_law_X2_at
set_option maxRecDepth 20000 in
theorem ggL_law_X3_at : GoodIn wsL_law wsX3_at := goodIn_r _ [180, 39, 72, 73, 5, 74, 75, 76, 77, 104, 105, 106, 107, 81, 82, 83, 446, 447, 448, 449, 450, 451, 452, 453, 454, 455, 456] (by decide +kernel) (by decide +kernel)
set_option maxRecDepth 20000 in
theorem gL_law_X3_at : GoodIn wsL_law (wsV RL 48 RX3 yX3_at wsX3_at) := goodIn_app (goodIn_of _ (by decide +kernel)) ggL_law_X3_at
set_option maxRecDepth 20000 in
theorem ggL_law_X2_raw : GoodIn wsL_law wsX2_raw := goodIn_r _ [184, 15, 185, 186, 187, 54, 55, 56, 14, 57, 23, 58, 2, 59, 188, 189, 190, 63, 191, 192, 193, 25, 194, 33, 32, 31, 195, 196, 197, 198, 199, 200, 201, 202, 203, 204, 205, 206, 207, 208, 209, 210, 211, 212, 213, 214, 215, 216, 217, 218, 219, 220, 443, 444, 445, 457, 458, 459, 460, 461] (by decide +kernel) (by decide +kernel)
set_option maxRecDepth 20000 in
theorem gL_law_X2_raw : GoodIn wsL_law (wsV RL 49 RX2 yX2_raw wsX2_raw) := goodIn_app (goodIn_of _ (by decide +kernel)) ggL_law_X2_raw
set_option maxRecDepth 20000 in
theorem ggL_law_X3_raw : GoodIn wsL_law wsX3_raw := goodIn_r _ [224, 225, 226, 227, 72, 73, 5, 74, 75, 76, 77, 228, 229, 230, 231, 232, 233, 234, 235, 236, 237, 238, 239, 240, 241, 242, 243, 39, 244, 46, 47, 81, 82, 83, 245, 246, 247, 248, 249, 48, 49, 250, 251, 252, 253, 254, 255, 256, 257, 258, 259, 260, 261, 262, 263, 264, 265, 266, 267, 268, 269, 270, 271, 272, 273, 274, 446, 447, 448, 449, 450, 451, 452, 453, 454, 455, 456] (by decide +kernel) (by decide +kernel)
set_option maxRecDepth 20000 in
theorem gL_law_X3_raw : GoodIn wsL_law (wsV RL 53 RX3 yX3_raw wsX3_raw) := goodIn_app (goodIn_of _ (by decide +kernel)) ggL_law_X3_raw
set_option maxRecDepth 20000 in
theorem ggL_law_X2_cover : GoodIn wsL_law wsX2_cover := goodIn_r _ [278, 15, 279, 280, 187, 54, 55, 56, 14, 57, 23, 58, 2, 59, 188, 189, 190, 63, 281, 282, 283, 25, 284, 285, 216, 200, 217, 34, 286, 287, 288, 289, 290, 291, 192, 193, 194, 33, 32, 31, 195, 196, 197, 198, 199, 201, 202, 203, 204, 205, 206, 207, 208, 209, 210, 211, 212, 213, 214, 215, 218, 219, 220, 443, 444, 445, 457, 458, 459, 460, 461] (by decide +kernel) (by decide +kernel)
set_option maxRecDepth 20000 in
theorem gL_law_X2_cover : GoodIn wsL_law (wsV RL 54 RX2 yX2_cover wsX2_cover) := goodIn_app (goodIn_of _ (by decide +kernel)) ggL_law_X2_cover
set_option maxRecDepth 20000 in
theorem ggL_law_X3_cover : GoodIn wsL_law wsX3_cover := goodIn_r _ [295, 296, 226, 297, 72, 73, 5, 74, 75, 76, 77, 228, 229, 230, 231, 232, 233, 298, 299, 300, 301, 302, 303, 304, 305, 39, 306, 234, 235, 236, 237, 238, 239, 240, 241, 242, 243, 244, 46, 47, 81, 82, 83, 245, 246, 247, 248, 249, 48, 49, 250, 251, 252, 253, 254, 255, 256, 257, 258, 259, 260, 261, 262, 263, 264, 265, 269, 270, 271, 266, 267, 268, 272, 273, 274, 446, 447, 448, 449, 450, 451, 452, 453, 454, 455, 456] (by decide +kernel) (by decide +kernel)
set_option maxRecDepth 20000 in
theorem gL_law_X3_cover : GoodIn wsL_law (wsV RL 57 RX3 yX3_cover wsX3_cover) := goodIn_app (goodIn_of _ (by decide +kernel)) ggL_law_X3_cover
set_option maxRecDepth 20000 in
theorem ggL_law_X2_together : GoodIn wsL_law wsX2_together := goodIn_r _ [310, 279, 280, 15, 311, 188, 189, 2, 190, 63, 58, 59, 312, 313, 314, 14, 315, 316, 23, 317, 318, 282, 283, 25, 284, 285, 216, 200, 217, 34, 286, 287, 288, 289, 290, 291, 192, 193, 194, 33, 32, 31, 195, 196, 197, 198, 199, 201, 202, 203, 204, 205, 206, 207, 208, 209, 210, 211, 212, 213, 214, 215, 218, 219, 220, 443, 444, 445, 457, 458, 459, 460, 461] (by decide +kernel) (by decide +kernel)
set_option maxRecDepth 20000 in
theorem gL_law_X2_together : GoodIn wsL_law (wsV RL 58 RX2 yX2_together wsX2_together) := goodIn_app (goodIn_of _ (by decide +kernel)) ggL_law_X2_together
set_option maxRecDepth 20000 in
theorem ggL_law_X3_together : GoodIn wsL_law wsX3_together := goodIn_r _ [322, 296, 297, 228, 229, 5, 230, 75, 76, 77, 231, 232, 233, 323, 324, 325, 326, 327, 328, 329, 330, 226, 298, 299, 300, 301, 302, 303, 304, 305, 39, 306, 234, 235, 236, 237, 238, 239, 240, 241, 242, 243, 244, 46, 47, 81, 82, 83, 245, 246, 247, 248, 249, 48, 49, 250, 251, 252, 253, 254, 255, 256, 257, 258, 259, 260, 261, 262, 263, 264, 265, 269, 270, 271, 266, 267, 268, 272, 273, 274, 446, 447, 448, 449, 450, 451, 452, 453, 454, 455, 456] (by decide +kernel) (by decide +kernel)
set_option maxRecDepth 20000 in
theorem gL_law_X3_together : GoodIn wsL_law (wsV RL 62 RX3 yX3_together wsX3_together) := goodIn_app (goodIn_of _ (by decide +kernel)) ggL_law_X3_together
set_option maxRecDepth 20000 in
theorem ggL_law_X2_area : GoodIn wsL_law wsX2_area := goodIn_r _ [334, 15, 185, 186, 335, 54, 55, 56, 14, 57, 23, 58, 2, 59, 63, 191, 192, 193, 25, 194, 33, 32, 31, 195, 196, 197, 198, 199, 200, 201, 202, 203, 204, 205, 206, 207, 208, 209, 210, 211, 212, 213, 214, 215, 216, 217, 218, 219, 220, 443, 444, 445, 457, 458, 459, 460, 461] (by decide +kernel) (by decide +kernel)
set_option maxRecDepth 20000 in
theorem gL_law_X2_area : GoodIn wsL_law (wsV RL 63 RX2 yX2_area wsX2_area) := goodIn_app (goodIn_of _ (by decide +kernel)) ggL_law_X2_area
set_option maxRecDepth 20000 in
theorem ggL_law_X3_area : GoodIn wsL_law wsX3_area := goodIn_r _ [339, 225, 227, 340, 226, 72, 73, 5, 74, 75, 76, 77, 231, 232, 233, 234, 235, 236, 237, 238, 239, 240, 241, 242, 243, 39, 244, 46, 47, 81, 82, 83, 245, 246, 247, 248, 249, 48, 49, 250, 251, 252, 253, 254, 255, 256, 257, 258, 259, 260, 261, 262, 263, 264, 265, 266, 267, 268, 269, 270, 271, 272, 273, 274, 446, 447, 448, 449, 450, 451, 452, 453, 454, 455, 456] (by decide +kernel) (by decide +kernel)
set_option maxRecDepth 20000 in
theorem gL_law_X3_area : GoodIn wsL_law (wsV RL 66 RX3 yX3_area wsX3_area) := goodIn_app (goodIn_of _ (by decide +kernel)) ggL_law_X3_area
set_option maxRecDepth 20000 in
theorem ggL_law_X2_enough : GoodIn wsL_law wsX2_enough := goodIn_r _ [344, 15, 187, 54, 55, 56, 14, 57, 23, 58, 2, 59, 63, 281, 282, 283, 25, 284, 285, 216, 200, 217, 34, 286, 287, 288, 289, 290, 291, 192, 193, 194, 33, 32, 31, 195, 196, 197, 198, 199, 201, 202, 203, 204, 205, 206, 207, 208, 209, 210, 211, 443, 444, 445, 457, 458, 459, 460, 461] (by decide +kernel) (by decide +kernel)
set_option maxRecDepth 20000 in
theorem gL_law_X2_enough : GoodIn wsL_law (wsV RL 67 RX2 yX2_enough wsX2_enough) := goodIn_app (goodIn_of _ (by decide +kernel)) ggL_law_X2_enough
set_option maxRecDepth 20000 in
theorem ggL_law_X3_enough : GoodIn wsL_law wsX3_enough := goodIn_r _ [348, 226, 72, 73, 5, 74, 75, 76, 77, 298, 299, 300, 301, 302, 303, 304, 305, 39, 306, 234, 235, 236, 237, 238, 239, 240, 241, 242, 243, 244, 46, 47, 81, 82, 83, 245, 246, 247, 248, 249, 48, 49, 250, 251, 252, 253, 254, 255, 256, 257, 258, 259, 260, 261, 262, 263, 264, 265, 269, 270, 271, 446, 447, 448, 449, 450, 451, 452, 453, 454, 455, 456] (by decide +kernel) (by decide +kernel)
set_option maxRecDepth 20000 in
theorem gL_law_X3_enough : GoodIn wsL_law (wsV RL 70 RX3 yX3_enough wsX3_enough) := goodIn_app (goodIn_of _ (by decide +kernel)) ggL_law_X3_enough
set_option maxRecDepth 20000 in
theorem ggL_law_X2_field : GoodIn wsL_law wsX2_field := goodIn_r _ [352, 15, 311, 353, 354, 355, 14, 356, 357, 313, 314, 315, 316, 23, 317, 318, 282, 283, 25, 284, 285, 216, 200, 217, 34, 286, 287, 288, 289, 290, 291, 192, 193, 194, 33, 32, 31, 195, 196, 197, 198, 199, 201, 202, 203, 204, 205, 206, 207, 208, 209, 210, 211, 358, 359, 360, 361, 362, 363, 364, 365, 443, 444, 445, 457, 458, 459, 460, 461] (by decide +kernel) (by decide +kernel)
set_option maxRecDepth 20000 in
theorem gL_law_X2_field : GoodIn wsL_law (wsV RL 71 RX2 yX2_field wsX2_field) := goodIn_app (goodIn_of _ (by decide +kernel)) ggL_law_X2_field
set_option maxRecDepth 20000 in
theorem ggL_law_X3_field : GoodIn wsL_law wsX3_field := goodIn_r _ [369, 75, 76, 5, 77, 327, 328, 329, 330, 226, 298, 299, 300, 301, 302, 303, 304, 305, 39, 306, 234, 235, 236, 237, 238, 239, 240, 241, 242, 243, 244, 46, 47, 81, 82, 83, 245, 246, 247, 248, 249, 48, 49, 250, 251, 252, 253, 254, 255, 256, 257, 258, 259, 260, 261, 262, 263, 264, 265, 269, 270, 271, 323, 324, 325, 326, 446, 447, 448, 449, 450, 451, 452, 453, 454, 455, 456] (by decide +kernel) (by decide +kernel)
set_option maxRecDepth 20000 in
theorem gL_law_X3_field : GoodIn wsL_law (wsV RL 74 RX3 yX3_field wsX3_field) := goodIn_app (goodIn_of _ (by decide +kernel)) ggL_law_X3_field
set_option maxRecDepth 20000 in
theorem ggL_law_X2_best : GoodIn wsL_law wsX2_best := goodIn_r _ [373, 15, 54, 55, 56, 14, 57, 23, 58, 2, 59, 63, 374, 375, 376, 25, 377, 31, 32, 378, 379, 380, 381, 33, 202, 203, 200, 204, 382, 383, 384, 385, 198, 199, 201, 386, 387, 388, 389, 286, 390, 282, 283, 284, 285, 216, 217, 34, 287, 288, 289, 290, 291, 192, 193, 194, 195, 196, 197, 205, 206, 207, 208, 209, 210, 211, 443, 444, 445, 458, 459, 460, 461, 457] (by decide +kernel) (by decide +kernel)
set_option maxRecDepth 20000 in
theorem gL_law_X2_best : GoodIn wsL_law (wsV RL 75 RX2 yX2_best wsX2_best) := goodIn_app (goodIn_of _ (by decide +kernel)) ggL_law_X2_best
set_option maxRecDepth 20000 in
theorem ggL_law_X3_best : GoodIn wsL_law wsX3_best := goodIn_r _ [394, 39, 72, 73, 5, 74, 75, 76, 77, 132, 133, 134, 135, 81, 82, 83, 78, 79, 80, 395, 396, 397, 398, 226, 302, 303, 304, 305, 306, 234, 235, 236, 237, 238, 239, 240, 241, 242, 243, 244, 46, 47, 245, 246, 247, 248, 249, 48, 49, 250, 251, 252, 253, 254, 255, 256, 257, 258, 259, 260, 261, 262, 263, 264, 265, 269, 270, 271, 446, 447, 448, 449, 450, 451, 452, 453, 454, 455, 456] (by decide +kernel) (by decide +kernel)
set_option maxRecDepth 20000 in
theorem gL_law_X3_best : GoodIn wsL_law (wsV RL 78 RX3 yX3_best wsX3_best) := goodIn_app (goodIn_of _ (by decide +kernel)) ggL_law_X3_best
set_option maxRecDepth 20000 in
theorem ggL_law_X2_same : GoodIn wsL_law wsX2_same := goodIn_r _ [402, 15, 54, 55, 56, 14, 57, 23, 58, 2, 59, 281, 282, 283, 25, 284, 285, 216, 200, 217, 34, 286, 287, 288, 289, 290, 291, 192, 193, 194, 33, 32, 31, 195, 196, 197, 198, 199, 201, 202, 203, 204, 205, 206, 207, 208, 209, 210, 211, 443, 444, 445, 457, 458, 459, 460, 461] (by decide +kernel) (by decide +kernel)
set_option maxRecDepth 20000 in
theorem gL_law_X2_same : GoodIn wsL_law (wsV RL 79 RX2 yX2_same wsX2_same) := goodIn_app (goodIn_of _ (by decide +kernel)) ggL_law_X2_same
set_option maxRecDepth 20000 in
theorem ggL_law_X3_same : GoodIn wsL_law wsX3_same := goodIn_r _ [406, 72, 73, 5, 74, 75, 76, 77, 298, 299, 300, 301, 302, 303, 304, 305, 39, 226, 306, 234, 235, 236, 237, 238, 239, 240, 241, 242, 243, 244, 46, 47, 81, 82, 83, 245, 246, 247, 248, 249, 48, 49, 250, 251, 252, 253, 254, 255, 256, 257, 258, 259, 260, 261, 262, 263, 264, 265, 269, 270, 271, 446, 447, 448, 449, 450, 451, 452, 453, 454, 455, 456] (by decide +kernel) (by decide +kernel)
set_option maxRecDepth 20000 in
theorem gL_law_X3_same : GoodIn wsL_law (wsV RL 82 RX3 yX3_same wsX3_same) := goodIn_app (goodIn_of _ (by decide +kernel)) ggL_law_X3_same
set_option maxRecDepth 20000 in
theorem ggL_law_X2_image : GoodIn wsL_law wsX2_image := goodIn_r _ [410, 16, 15, 17, 63, 58, 2, 59, 411, 412, 413, 14, 414, 23, 415, 416, 417, 25, 418, 31, 32, 33, 34, 443, 444, 445, 457, 458, 459, 460, 461] (by decide +kernel) (by decide +kernel)
set_option maxRecDepth 20000 in
theorem gL_law_X2_image : GoodIn wsL_law (wsV RL 83 RX2 yX2_image wsX2_image) := goodIn_app (goodIn_of _ (by decide +kernel)) ggL_law_X2_image
set_option maxRecDepth 20000 in
theorem ggL_law_X3_image : GoodIn wsL_law wsX3_image := goodIn_r _ [422, 40, 39, 42, 75, 76, 5, 77, 446, 447, 448, 449, 450, 451, 452, 453, 454, 455, 456] (by decide +kernel) (by decide +kernel)
set_option maxRecDepth 20000 in
theorem gL_law_X3_image : GoodIn wsL_law (wsV RL 86 RX3 yX3_image wsX3_image) := goodIn_app (goodIn_of _ (by decide +kernel)) ggL_law_X3_image
set_option maxRecDepth 20000 in
theorem ggL_law_X2_restore : GoodIn wsL_law wsX2_restore := goodIn_r _ [426, 17, 15, 16, 63, 58, 2, 59, 411, 412, 413, 14, 414, 23, 415, 416, 417, 25, 418, 31, 32, 33, 34, 443, 444, 445, 457, 458, 459, 460, 461] (by decide +kernel) (by decide +kernel)
set_option maxRecDepth 20000 in
theorem gL_law_X2_restore : GoodIn wsL_law (wsV RL 87 RX2 yX2_restore wsX2_restore) := goodIn_app (goodIn_of _ (by decide +kernel)) ggL_law_X2_restore
set_option maxRecDepth 20000 in
theorem ggL_law_X3_restore : GoodIn wsL_law wsX3_restore := goodIn_r _ [430, 42, 39, 40, 75, 76, 5, 77, 446, 447, 448, 449, 450, 451, 452, 453, 454, 455, 456] (by decide +kernel) (by decide +kernel)
set_option maxRecDepth 20000 in
theorem gL_law_X3_restore : GoodIn wsL_law (wsV RL 90 RX3 yX3_restore wsX3_restore) := goodIn_app (goodIn_of _ (by decide +kernel)) ggL_law_X3_restore
set_option maxRecDepth 20000 in
theorem ggL_law_X2_count : GoodIn wsL_law wsX2_count := goodIn_r _ [434, 15, 17, 435, 436, 437, 14, 438, 23, 54, 55, 56, 57, 58, 2, 59, 443, 444, 445, 458, 459, 460, 461, 457] (by decide +kernel) (by decide +kernel)
set_option maxRecDepth 20000 in
theorem gL_law_X2_count : GoodIn wsL_law (wsV RL 91 RX2 yX2_count wsX2_count) := goodIn_app (goodIn_of _ (by decide +kernel)) ggL_law_X2_count
set_option maxRecDepth 20000 in
theorem ggL_law_X3_count : GoodIn wsL_law wsX3_count := goodIn_r _ [442, 39, 42, 75, 76, 5, 77, 446, 447, 448, 449, 450, 451, 452, 453, 454, 455, 456] (by decide +kernel) (by decide +kernel)
set_option maxRecDepth 20000 in
theorem gL_law_X3_count : GoodIn wsL_law (wsV RL 94 RX3 yX3_count wsX3_count) := goodIn_app (goodIn_of _ (by decide +kernel)) ggL_law_X3_count
