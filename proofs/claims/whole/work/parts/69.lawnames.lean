set_option maxRecDepth 20000 in
theorem ggL_law_X5_init : GoodIn wsL_law wsX5_init := goodIn_r _ [9, 10, 11, 12, 13, 14, 15, 16, 17, 18, 19, 20, 21, 22, 23, 24, 25, 26, 27, 28, 29, 30, 31, 32, 33, 34, 35, 36, 37, 38, 39, 40, 41, 42, 43, 2, 44, 45, 46, 47, 48, 49, 50, 51, 52, 53, 54, 55, 56, 57, 58, 59, 60, 61, 62, 63, 64, 65, 66, 969, 970, 948, 949, 950, 951, 952, 971, 972, 973, 974, 975, 976, 977, 978, 979, 980, 981, 982] (by decide +kernel) (by decide +kernel)
set_option maxRecDepth 20000 in
theorem gL_law_X5_init : GoodIn wsL_law (wsX5_init) := ggL_law_X5_init
set_option maxRecDepth 20000 in
theorem ggL_law_X6_init : GoodIn wsL_law wsX6_init := goodIn_r _ [69, 70, 11, 12, 37, 71, 72, 73, 74, 75, 76, 953, 954, 955, 956, 957, 958, 959, 960, 961, 962, 963, 964, 965, 966, 967, 968] (by decide +kernel) (by decide +kernel)
set_option maxRecDepth 20000 in
theorem gL_law_X6_init : GoodIn wsL_law (wsX6_init) := ggL_law_X6_init
set_option maxRecDepth 20000 in
theorem ggL_law_L_addBrand : GoodIn wsL_law wsL_addBrand := goodIn_ca (goodIn_ca (goodIn_r _ [80, 81, 82, 83, 84, 85, 2, 86, 17, 21, 87, 88, 89, 90, 91, 92, 93, 94, 95, 96, 97, 98, 35, 99, 100, 101, 102, 103, 104, 42, 105, 106, 107, 108, 109, 110, 20, 111, 112, 113, 114, 115, 116, 117, 118, 57, 119, 120, 121, 122, 123, 124, 125, 126, 127, 128, 49, 50, 51, 52, 129, 130, 131, 948, 949, 950, 951, 952, 982, 971, 972, 973] (by decide +kernel) (by decide +kernel)) (goodIn_sub (fun _ h => List.mem_append_left _ (List.mem_append_left _ (List.mem_append_right _ h))) (by decide +kernel))) (goodIn_sub (fun _ h => List.mem_append_left _ (List.mem_append_right _ h)) (by decide +kernel))
set_option maxRecDepth 20000 in
theorem gL_law_L_addBrand : GoodIn wsL_law (va_wsS RL 101 yL_addBrand wsL_addBrand) := goodIn_app (goodIn_of _ (by decide +kernel)) ggL_law_L_addBrand
set_option maxRecDepth 20000 in
theorem ggL_law_X6_addBrand : GoodIn wsL_law wsX6_addBrand := goodIn_r _ [135, 136, 71, 137, 138, 5, 139, 140, 141, 142, 143, 144, 145, 146, 147, 148, 73, 149, 150, 151, 953, 954, 955, 956, 957, 958, 959, 960, 961, 962, 963, 964, 965, 966, 967, 968] (by decide +kernel) (by decide +kernel)
set_option maxRecDepth 20000 in
theorem gL_law_X6_addBrand : GoodIn wsL_law (wsV RL 106 RX6 yX6_addBrand wsX6_addBrand) := goodIn_app (goodIn_of _ (by decide +kernel)) ggL_law_X6_addBrand
set_option maxRecDepth 20000 in
theorem ggL_law_X6_thrown : GoodIn wsL_law wsX6_thrown := goodIn_r _ [155, 136, 953, 954, 955, 956, 957, 958, 959, 960, 961, 962, 963, 964, 965, 966, 967, 968] (by decide +kernel) (by decide +kernel)
set_option maxRecDepth 20000 in
theorem gL_law_X6_thrown : GoodIn wsL_law (wsV RL 107 RX6 yX6_thrown wsX6_thrown) := goodIn_app (goodIn_of _ (by decide +kernel)) ggL_law_X6_thrown
set_option maxRecDepth 20000 in
theorem ggL_law_L_addShop : GoodIn wsL_law wsL_addShop := goodIn_ca (goodIn_ca (goodIn_r _ [158, 81, 82, 159, 160, 161, 2, 162, 163, 17, 21, 90, 91, 92, 93, 94, 95, 96, 97, 98, 35, 99, 100, 101, 102, 103, 104, 42, 105, 106, 107, 108, 109, 110, 20, 111, 112, 113, 114, 115, 116, 117, 118, 57, 119, 120, 121, 122, 123, 124, 125, 126, 127, 128, 49, 50, 51, 52, 164, 165, 166, 948, 949, 950, 951, 952, 982, 971, 972, 973] (by decide +kernel) (by decide +kernel)) (goodIn_sub (fun _ h => List.mem_append_left _ (List.mem_append_left _ (List.mem_append_right _ h))) (by decide +kernel))) (goodIn_sub (fun _ h => List.mem_append_left _ (List.mem_append_right _ h)) (by decide +kernel))
set_option maxRecDepth 20000 in
theorem gL_law_L_addShop : GoodIn wsL_law (va_wsS RL 110 yL_addShop wsL_addShop) := goodIn_app (goodIn_of _ (by decide +kernel)) ggL_law_L_addShop
set_option maxRecDepth 20000 in
theorem ggL_law_X6_addShop : GoodIn wsL_law wsX6_addShop := goodIn_r _ [170, 136, 171, 71, 137, 138, 5, 139, 140, 141, 142, 143, 144, 145, 146, 147, 148, 73, 172, 173, 174, 953, 954, 955, 956, 957, 958, 959, 960, 961, 962, 963, 964, 965, 966, 967, 968] (by decide +kernel) (by decide +kernel)
set_option maxRecDepth 20000 in
theorem gL_law_X6_addShop : GoodIn wsL_law (wsV RL 113 RX6 yX6_addShop wsX6_addShop) := goodIn_app (goodIn_of _ (by decide +kernel)) ggL_law_X6_addShop
set_option maxRecDepth 20000 in
theorem ggL_law_L_buyCrates : GoodIn wsL_law wsL_buyCrates := goodIn_ca (goodIn_ca (goodIn_r _ [177, 81, 82, 178, 179, 180, 2, 181, 17, 21, 90, 91, 92, 93, 94, 95, 96, 97, 98, 35, 99, 100, 101, 102, 103, 104, 42, 182, 183, 184, 185, 186, 187, 188, 189, 190, 191, 192, 193, 194, 195, 196, 197, 198, 199, 200, 201, 105, 106, 107, 108, 109, 110, 20, 111, 112, 113, 114, 115, 116, 117, 118, 57, 119, 120, 121, 122, 123, 124, 125, 126, 127, 128, 49, 50, 51, 52, 948, 949, 950, 951, 952, 982, 971, 972, 973] (by decide +kernel) (by decide +kernel)) (goodIn_sub (fun _ h => List.mem_append_left _ (List.mem_append_left _ (List.mem_append_right _ h))) (by decide +kernel))) (goodIn_sub (fun _ h => List.mem_append_left _ (List.mem_append_right _ h)) (by decide +kernel))
set_option maxRecDepth 20000 in
theorem gL_law_L_buyCrates : GoodIn wsL_law (va_wsS RL 114 yL_buyCrates wsL_buyCrates) := goodIn_app (goodIn_of _ (by decide +kernel)) ggL_law_L_buyCrates
set_option maxRecDepth 20000 in
theorem ggL_law_X6_buyCrates : GoodIn wsL_law wsX6_buyCrates := goodIn_r _ [205, 136, 71, 137, 138, 5, 139, 140, 141, 142, 143, 206, 207, 208, 209, 210, 211, 212, 213, 172, 173, 174, 144, 145, 146, 147, 148, 73, 953, 954, 955, 956, 957, 958, 959, 960, 961, 962, 963, 964, 965, 966, 967, 968] (by decide +kernel) (by decide +kernel)
set_option maxRecDepth 20000 in
theorem gL_law_X6_buyCrates : GoodIn wsL_law (wsV RL 116 RX6 yX6_buyCrates wsX6_buyCrates) := goodIn_app (goodIn_of _ (by decide +kernel)) ggL_law_X6_buyCrates
set_option maxRecDepth 20000 in
theorem ggL_law_L_set : GoodIn wsL_law wsL_set := goodIn_ca (goodIn_ca (goodIn_ca (goodIn_r _ [216, 217, 81, 82, 218, 219, 220, 2, 221, 222, 223, 17, 21, 224, 225, 226, 227, 228, 229, 43, 44, 90, 91, 92, 93, 94, 95, 96, 97, 98, 35, 99, 100, 101, 102, 103, 104, 42, 105, 106, 107, 108, 109, 110, 20, 111, 112, 113, 114, 115, 116, 117, 118, 57, 119, 120, 121, 122, 123, 124, 125, 230, 231, 232, 46, 47, 48, 49, 50, 51, 52, 948, 949, 950, 951, 952, 982, 971, 972, 973] (by decide +kernel) (by decide +kernel)) (goodIn_sub (fun _ h => List.mem_append_right _ h) (by decide +kernel))) (goodIn_sub (fun _ h => List.mem_append_left _ (List.mem_append_left _ (List.mem_append_right _ h))) (by decide +kernel))) (goodIn_sub (fun _ h => List.mem_append_left _ (List.mem_append_right _ h)) (by decide +kernel))
set_option maxRecDepth 20000 in
theorem gL_law_L_set : GoodIn wsL_law (va_wsS RL 117 yL_set wsL_set) := goodIn_app (goodIn_of _ (by decide +kernel)) ggL_law_L_set
set_option maxRecDepth 20000 in
theorem ggL_law_X6_set : GoodIn wsL_law wsX6_set := goodIn_r _ [236, 136, 75, 76, 71, 137, 138, 5, 139, 140, 141, 142, 143, 144, 145, 146, 147, 148, 73, 953, 954, 955, 956, 957, 958, 959, 960, 961, 962, 963, 964, 965, 966, 967, 968] (by decide +kernel) (by decide +kernel)
set_option maxRecDepth 20000 in
theorem gL_law_X6_set : GoodIn wsL_law (wsV RL 119 RX6 yX6_set wsX6_set) := goodIn_app (goodIn_of _ (by decide +kernel)) ggL_law_X6_set
set_option maxRecDepth 20000 in
theorem ggL_law_L_fill : GoodIn wsL_law wsL_fill := goodIn_ca (goodIn_ca (goodIn_ca (goodIn_r _ [239, 217, 81, 82, 240, 241, 242, 2, 243, 17, 21, 16, 244, 245, 246, 247, 227, 228, 248, 249, 250, 251, 98, 35, 99, 100, 101, 102, 103, 104, 42, 90, 91, 92, 93, 94, 95, 96, 97, 198, 199, 200, 105, 106, 107, 108, 109, 110, 20, 111, 112, 113, 114, 115, 116, 117, 118, 57, 119, 120, 121, 122, 123, 124, 125, 252, 15, 253, 254, 36, 255, 256, 257, 258, 230, 231, 232, 129, 130, 131, 49, 50, 51, 52, 948, 949, 950, 951, 952, 982, 971, 972, 973, 969, 970] (by decide +kernel) (by decide +kernel)) (goodIn_sub (fun _ h => List.mem_append_right _ h) (by decide +kernel))) (goodIn_sub (fun _ h => List.mem_append_left _ (List.mem_append_left _ (List.mem_append_right _ h))) (by decide +kernel))) (goodIn_sub (fun _ h => List.mem_append_left _ (List.mem_append_right _ h)) (by decide +kernel))
set_option maxRecDepth 20000 in
theorem gL_law_L_fill : GoodIn wsL_law (va_wsS RL 120 yL_fill wsL_fill) := goodIn_app (goodIn_of _ (by decide +kernel)) ggL_law_L_fill
set_option maxRecDepth 20000 in
theorem ggL_law_X6_fill : GoodIn wsL_law wsX6_fill := goodIn_r _ [262, 136, 263, 264, 265, 5, 266, 71, 137, 138, 139, 140, 141, 142, 143, 267, 268, 269, 270, 149, 150, 151, 144, 145, 146, 147, 148, 73, 271, 272, 273, 274, 275, 276, 277, 278, 953, 954, 955, 956, 957, 958, 959, 960, 961, 962, 963, 964, 965, 966, 967, 968] (by decide +kernel) (by decide +kernel)
set_option maxRecDepth 20000 in
theorem gL_law_X6_fill : GoodIn wsL_law (wsV RL 122 RX6 yX6_fill wsX6_fill) := goodIn_app (goodIn_of _ (by decide +kernel)) ggL_law_X6_fill
set_option maxRecDepth 20000 in
theorem ggL_law_L_deliver : GoodIn wsL_law wsL_deliver := goodIn_ca (goodIn_ca (goodIn_ca (goodIn_r _ [281, 217, 81, 82, 282, 283, 284, 2, 285, 16, 21, 17, 244, 245, 246, 247, 227, 228, 248, 249, 250, 251, 98, 35, 99, 100, 101, 102, 103, 104, 42, 286, 287, 288, 289, 290, 291, 292, 293, 90, 91, 92, 93, 94, 95, 96, 97, 294, 15, 295, 296, 36, 198, 199, 200, 190, 191, 192, 297, 298, 299, 300, 301, 302, 303, 304, 230, 231, 232, 105, 106, 107, 108, 109, 110, 20, 111, 112, 113, 114, 115, 116, 117, 118, 57, 119, 120, 121, 122, 123, 124, 125, 305, 306, 307, 129, 130, 131, 49, 50, 51, 52, 164, 165, 166, 126, 127, 128, 948, 949, 950, 951, 952, 982, 969, 970, 971, 972, 973] (by decide +kernel) (by decide +kernel)) (goodIn_sub (fun _ h => List.mem_append_right _ h) (by decide +kernel))) (goodIn_sub (fun _ h => List.mem_append_left _ (List.mem_append_left _ (List.mem_append_right _ h))) (by decide +kernel))) (goodIn_sub (fun _ h => List.mem_append_left _ (List.mem_append_right _ h)) (by decide +kernel))
set_option maxRecDepth 20000 in
theorem gL_law_L_deliver : GoodIn wsL_law (va_wsS RL 123 yL_deliver wsL_deliver) := goodIn_app (goodIn_of _ (by decide +kernel)) ggL_law_L_deliver
set_option maxRecDepth 20000 in
theorem ggL_law_X6_deliver : GoodIn wsL_law wsX6_deliver := goodIn_r _ [311, 136, 263, 264, 265, 5, 266, 71, 137, 138, 139, 312, 313, 314, 315, 140, 141, 142, 143, 316, 317, 318, 319, 267, 268, 269, 270, 149, 150, 151, 210, 211, 212, 213, 172, 173, 174, 320, 321, 322, 323, 324, 325, 326, 327, 144, 145, 146, 147, 148, 73, 328, 329, 330, 331, 953, 954, 955, 956, 957, 958, 959, 960, 961, 962, 963, 964, 965, 966, 967, 968] (by decide +kernel) (by decide +kernel)
set_option maxRecDepth 20000 in
theorem gL_law_X6_deliver : GoodIn wsL_law (wsV RL 126 RX6 yX6_deliver wsX6_deliver) := goodIn_app (goodIn_of _ (by decide +kernel)) ggL_law_X6_deliver
set_option maxRecDepth 20000 in
theorem ggL_law_L_sell : GoodIn wsL_law wsL_sell := goodIn_ca (goodIn_ca (goodIn_ca (goodIn_r _ [334, 217, 81, 82, 335, 336, 337, 2, 338, 16, 21, 17, 286, 287, 288, 289, 227, 228, 290, 291, 292, 293, 98, 35, 99, 100, 101, 102, 103, 104, 42, 244, 245, 246, 247, 248, 249, 250, 251, 90, 91, 92, 93, 94, 95, 96, 97, 339, 15, 340, 341, 36, 190, 191, 192, 342, 343, 344, 105, 106, 107, 108, 109, 110, 20, 111, 112, 113, 114, 115, 116, 117, 118, 57, 119, 120, 121, 122, 123, 124, 125, 345, 346, 347, 164, 165, 166, 49, 50, 51, 52, 129, 130, 131, 348, 349, 350, 351, 198, 199, 200, 230, 231, 232, 948, 949, 950, 951, 952, 982, 969, 970, 971, 972, 973] (by decide +kernel) (by decide +kernel)) (goodIn_sub (fun _ h => List.mem_append_right _ h) (by decide +kernel))) (goodIn_sub (fun _ h => List.mem_append_left _ (List.mem_append_left _ (List.mem_append_right _ h))) (by decide +kernel))) (goodIn_sub (fun _ h => List.mem_append_left _ (List.mem_append_right _ h)) (by decide +kernel))
set_option maxRecDepth 20000 in
theorem gL_law_L_sell : GoodIn wsL_law (va_wsS RL 127 yL_sell wsL_sell) := goodIn_app (goodIn_of _ (by decide +kernel)) ggL_law_L_sell
set_option maxRecDepth 20000 in
theorem ggL_law_X6_sell : GoodIn wsL_law wsX6_sell := goodIn_r _ [355, 136, 312, 313, 314, 5, 315, 71, 137, 138, 139, 263, 264, 265, 266, 140, 141, 142, 143, 356, 357, 358, 359, 210, 211, 212, 213, 172, 173, 174, 144, 145, 146, 147, 148, 73, 360, 361, 362, 363, 149, 150, 151, 364, 365, 366, 367, 267, 268, 269, 270, 953, 954, 955, 956, 957, 958, 959, 960, 961, 962, 963, 964, 965, 966, 967, 968] (by decide +kernel) (by decide +kernel)
set_option maxRecDepth 20000 in
theorem gL_law_X6_sell : GoodIn wsL_law (wsV RL 129 RX6 yX6_sell wsX6_sell) := goodIn_app (goodIn_of _ (by decide +kernel)) ggL_law_X6_sell
set_option maxRecDepth 20000 in
theorem ggL_law_L_takeBack : GoodIn wsL_law wsL_takeBack := goodIn_ca (goodIn_ca (goodIn_ca (goodIn_r _ [370, 217, 81, 82, 371, 372, 373, 2, 374, 16, 21, 17, 286, 287, 288, 289, 227, 228, 290, 291, 292, 293, 98, 35, 99, 100, 101, 102, 103, 104, 42, 244, 245, 246, 247, 248, 249, 250, 251, 90, 91, 92, 93, 94, 95, 96, 97, 375, 15, 376, 377, 36, 198, 199, 200, 190, 191, 192, 348, 349, 350, 351, 230, 231, 232, 105, 106, 107, 108, 109, 110, 20, 111, 112, 113, 114, 115, 116, 117, 118, 57, 119, 120, 121, 122, 123, 124, 125, 378, 379, 380, 129, 130, 131, 49, 50, 51, 52, 164, 165, 166, 948, 949, 950, 951, 952, 982, 969, 970, 971, 972, 973] (by decide +kernel) (by decide +kernel)) (goodIn_sub (fun _ h => List.mem_append_right _ h) (by decide +kernel))) (goodIn_sub (fun _ h => List.mem_append_left _ (List.mem_append_left _ (List.mem_append_right _ h))) (by decide +kernel))) (goodIn_sub (fun _ h => List.mem_append_left _ (List.mem_append_right _ h)) (by decide +kernel))
set_option maxRecDepth 20000 in
theorem gL_law_L_takeBack : GoodIn wsL_law (va_wsS RL 130 yL_takeBack wsL_takeBack) := goodIn_app (goodIn_of _ (by decide +kernel)) ggL_law_L_takeBack
set_option maxRecDepth 20000 in
theorem ggL_law_X6_takeBack : GoodIn wsL_law wsX6_takeBack := goodIn_r _ [384, 136, 312, 313, 314, 5, 315, 71, 137, 138, 139, 263, 264, 265, 266, 140, 141, 142, 143, 385, 386, 387, 388, 267, 268, 269, 270, 149, 150, 151, 210, 211, 212, 213, 172, 173, 174, 364, 365, 366, 367, 144, 145, 146, 147, 148, 73, 389, 390, 391, 392, 953, 954, 955, 956, 957, 958, 959, 960, 961, 962, 963, 964, 965, 966, 967, 968] (by decide +kernel) (by decide +kernel)
set_option maxRecDepth 20000 in
theorem gL_law_X6_takeBack : GoodIn wsL_law (wsV RL 132 RX6 yX6_takeBack wsX6_takeBack) := goodIn_app (goodIn_of _ (by decide +kernel)) ggL_law_X6_takeBack
set_option maxRecDepth 20000 in
theorem ggL_law_L_breaks : GoodIn wsL_law wsL_breaks := goodIn_ca (goodIn_ca (goodIn_ca (goodIn_r _ [395, 217, 81, 82, 396, 397, 398, 2, 399, 16, 21, 17, 286, 287, 288, 289, 227, 228, 290, 291, 292, 293, 98, 35, 99, 100, 101, 102, 103, 104, 42, 244, 245, 246, 247, 248, 249, 250, 251, 90, 91, 92, 93, 94, 95, 96, 97, 400, 15, 401, 402, 36, 190, 191, 192, 342, 343, 344, 105, 106, 107, 108, 109, 110, 20, 111, 112, 113, 114, 115, 116, 117, 118, 57, 119, 120, 121, 122, 123, 124, 125, 403, 404, 405, 406, 407, 408, 409, 348, 349, 350, 351, 198, 199, 200, 230, 231, 232, 164, 165, 166, 49, 50, 51, 52, 129, 130, 131, 126, 127, 128, 948, 949, 950, 951, 952, 982, 969, 970, 971, 972, 973] (by decide +kernel) (by decide +kernel)) (goodIn_sub (fun _ h => List.mem_append_right _ h) (by decide +kernel))) (goodIn_sub (fun _ h => List.mem_append_left _ (List.mem_append_left _ (List.mem_append_right _ h))) (by decide +kernel))) (goodIn_sub (fun _ h => List.mem_append_left _ (List.mem_append_right _ h)) (by decide +kernel))
set_option maxRecDepth 20000 in
theorem gL_law_L_breaks : GoodIn wsL_law (va_wsS RL 133 yL_breaks wsL_breaks) := goodIn_app (goodIn_of _ (by decide +kernel)) ggL_law_L_breaks
set_option maxRecDepth 20000 in
theorem ggL_law_X6_breaks : GoodIn wsL_law wsX6_breaks := goodIn_r _ [413, 136, 312, 313, 314, 5, 315, 71, 137, 138, 139, 263, 264, 265, 266, 140, 141, 142, 143, 414, 415, 416, 417, 210, 211, 212, 213, 172, 173, 174, 144, 145, 146, 147, 148, 73, 418, 419, 420, 421, 364, 365, 366, 367, 267, 268, 269, 270, 149, 150, 151, 422, 423, 424, 953, 954, 955, 956, 957, 958, 959, 960, 961, 962, 963, 964, 965, 966, 967, 968] (by decide +kernel) (by decide +kernel)
set_option maxRecDepth 20000 in
theorem gL_law_X6_breaks : GoodIn wsL_law (wsV RL 135 RX6 yX6_breaks wsX6_breaks) := goodIn_app (goodIn_of _ (by decide +kernel)) ggL_law_X6_breaks
set_option maxRecDepth 20000 in
theorem ggL_law_L_lose : GoodIn wsL_law wsL_lose := goodIn_ca (goodIn_ca (goodIn_ca (goodIn_r _ [427, 217, 81, 82, 428, 429, 430, 2, 431, 17, 21, 16, 244, 245, 246, 247, 227, 228, 248, 249, 250, 251, 98, 35, 99, 100, 101, 102, 103, 104, 42, 90, 91, 92, 93, 94, 95, 96, 97, 198, 199, 200, 105, 106, 107, 108, 109, 110, 20, 111, 112, 113, 114, 115, 116, 117, 118, 57, 119, 120, 121, 122, 123, 124, 125, 432, 15, 433, 434, 36, 129, 130, 131, 49, 50, 51, 52, 348, 349, 350, 351, 230, 231, 232, 126, 127, 128, 948, 949, 950, 951, 952, 982, 971, 972, 973, 969, 970] (by decide +kernel) (by decide +kernel)) (goodIn_sub (fun _ h => List.mem_append_right _ h) (by decide +kernel))) (goodIn_sub (fun _ h => List.mem_append_left _ (List.mem_append_left _ (List.mem_append_right _ h))) (by decide +kernel))) (goodIn_sub (fun _ h => List.mem_append_left _ (List.mem_append_right _ h)) (by decide +kernel))
set_option maxRecDepth 20000 in
theorem gL_law_L_lose : GoodIn wsL_law (va_wsS RL 136 yL_lose wsL_lose) := goodIn_app (goodIn_of _ (by decide +kernel)) ggL_law_L_lose
set_option maxRecDepth 20000 in
theorem ggL_law_X6_lose : GoodIn wsL_law wsX6_lose := goodIn_r _ [438, 136, 71, 263, 264, 265, 5, 266, 137, 138, 139, 140, 141, 142, 143, 267, 268, 269, 270, 149, 150, 151, 144, 145, 146, 147, 148, 73, 364, 365, 366, 367, 953, 954, 955, 956, 957, 958, 959, 960, 961, 962, 963, 964, 965, 966, 967, 968] (by decide +kernel) (by decide +kernel)
set_option maxRecDepth 20000 in
theorem gL_law_X6_lose : GoodIn wsL_law (wsV RL 138 RX6 yX6_lose wsX6_lose) := goodIn_app (goodIn_of _ (by decide +kernel)) ggL_law_X6_lose
set_option maxRecDepth 20000 in
theorem ggL_law_L_collect : GoodIn wsL_law wsL_collect := goodIn_ca (goodIn_ca (goodIn_ca (goodIn_r _ [441, 217, 81, 82, 442, 443, 444, 2, 445, 16, 21, 17, 286, 287, 288, 289, 227, 228, 290, 291, 292, 293, 98, 35, 99, 100, 101, 102, 103, 104, 42, 87, 88, 89, 90, 91, 92, 93, 94, 95, 96, 97, 446, 15, 447, 448, 36, 449, 450, 451, 452, 198, 199, 200, 190, 191, 192, 105, 106, 107, 108, 109, 110, 20, 111, 112, 113, 114, 115, 116, 117, 118, 57, 119, 120, 121, 122, 123, 124, 125, 453, 454, 455, 301, 302, 303, 304, 230, 231, 232, 456, 457, 458, 459, 38, 460, 461, 462, 463, 464, 465, 466, 467, 43, 44, 164, 165, 166, 49, 50, 51, 52, 129, 130, 131, 126, 127, 128, 948, 949, 950, 951, 952, 982, 969, 970, 971, 972, 973] (by decide +kernel) (by decide +kernel)) (goodIn_sub (fun _ h => List.mem_append_right _ h) (by decide +kernel))) (goodIn_sub (fun _ h => List.mem_append_left _ (List.mem_append_left _ (List.mem_append_right _ h))) (by decide +kernel))) (goodIn_sub (fun _ h => List.mem_append_left _ (List.mem_append_right _ h)) (by decide +kernel))
set_option maxRecDepth 20000 in
theorem gL_law_L_collect : GoodIn wsL_law (va_wsS RL 139 yL_collect wsL_collect) := goodIn_app (goodIn_of _ (by decide +kernel)) ggL_law_L_collect
set_option maxRecDepth 20000 in
theorem ggL_law_X6_collect : GoodIn wsL_law wsX6_collect := goodIn_r _ [471, 136, 312, 313, 314, 5, 315, 71, 137, 138, 139, 140, 141, 142, 143, 472, 473, 474, 475, 476, 477, 478, 479, 267, 268, 269, 270, 149, 150, 151, 210, 211, 212, 213, 172, 173, 174, 144, 145, 146, 147, 148, 73, 480, 481, 482, 483, 484, 485, 486, 487, 324, 325, 326, 327, 953, 954, 955, 956, 957, 958, 959, 960, 961, 962, 963, 964, 965, 966, 967, 968] (by decide +kernel) (by decide +kernel)
set_option maxRecDepth 20000 in
theorem gL_law_X6_collect : GoodIn wsL_law (wsV RL 141 RX6 yX6_collect wsX6_collect) := goodIn_app (goodIn_of _ (by decide +kernel)) ggL_law_X6_collect
set_option maxRecDepth 20000 in
theorem ggL_law_L_sort : GoodIn wsL_law wsL_sort := goodIn_ca (goodIn_ca (goodIn_r _ [490, 81, 82, 491, 492, 493, 2, 494, 16, 21, 17, 87, 88, 89, 90, 91, 92, 93, 94, 95, 96, 97, 495, 15, 496, 497, 36, 198, 35, 199, 200, 101, 102, 103, 104, 42, 105, 106, 107, 108, 109, 110, 20, 111, 112, 113, 114, 115, 116, 117, 118, 57, 119, 120, 121, 122, 123, 124, 125, 498, 499, 500, 406, 407, 408, 409, 129, 130, 131, 49, 50, 51, 52, 501, 948, 949, 950, 951, 952, 969, 970, 982, 971, 972, 973] (by decide +kernel) (by decide +kernel)) (goodIn_sub (fun _ h => List.mem_append_left _ (List.mem_append_left _ (List.mem_append_right _ h))) (by decide +kernel))) (goodIn_sub (fun _ h => List.mem_append_left _ (List.mem_append_right _ h)) (by decide +kernel))
set_option maxRecDepth 20000 in
theorem gL_law_L_sort : GoodIn wsL_law (va_wsS RL 142 yL_sort wsL_sort) := goodIn_app (goodIn_of _ (by decide +kernel)) ggL_law_L_sort
set_option maxRecDepth 20000 in
theorem ggL_law_X6_sort : GoodIn wsL_law wsX6_sort := goodIn_r _ [505, 136, 71, 137, 138, 5, 139, 140, 141, 142, 143, 506, 507, 508, 509, 267, 268, 269, 270, 149, 150, 151, 144, 145, 146, 147, 148, 73, 422, 423, 424, 953, 954, 955, 956, 957, 958, 959, 960, 961, 962, 963, 964, 965, 966, 967, 968] (by decide +kernel) (by decide +kernel)
set_option maxRecDepth 20000 in
theorem gL_law_X6_sort : GoodIn wsL_law (wsV RL 144 RX6 yX6_sort wsX6_sort) := goodIn_app (goodIn_of _ (by decide +kernel)) ggL_law_X6_sort
set_option maxRecDepth 20000 in
theorem ggL_law_L_swap : GoodIn wsL_law wsL_swap := goodIn_ca (goodIn_ca (goodIn_ca (goodIn_r _ [512, 217, 81, 82, 513, 514, 515, 2, 516, 17, 21, 16, 244, 245, 246, 247, 227, 228, 248, 249, 250, 251, 98, 35, 99, 100, 101, 102, 103, 104, 42, 198, 199, 200, 93, 94, 95, 96, 97, 90, 91, 92, 105, 106, 107, 108, 109, 110, 20, 111, 112, 113, 114, 115, 116, 117, 118, 57, 119, 120, 121, 122, 123, 124, 125, 517, 15, 518, 519, 36, 129, 130, 131, 49, 50, 51, 52, 520, 521, 522, 523, 524, 525, 948, 949, 950, 951, 952, 982, 971, 972, 973, 969, 970] (by decide +kernel) (by decide +kernel)) (goodIn_sub (fun _ h => List.mem_append_right _ h) (by decide +kernel))) (goodIn_sub (fun _ h => List.mem_append_left _ (List.mem_append_left _ (List.mem_append_right _ h))) (by decide +kernel))) (goodIn_sub (fun _ h => List.mem_append_left _ (List.mem_append_right _ h)) (by decide +kernel))
set_option maxRecDepth 20000 in
theorem gL_law_L_swap : GoodIn wsL_law (va_wsS RL 145 yL_swap wsL_swap) := goodIn_app (goodIn_of _ (by decide +kernel)) ggL_law_L_swap
set_option maxRecDepth 20000 in
theorem ggL_law_X6_swap : GoodIn wsL_law wsX6_swap := goodIn_r _ [529, 136, 71, 263, 264, 265, 5, 266, 137, 138, 139, 140, 141, 142, 143, 267, 268, 269, 270, 149, 150, 151, 144, 145, 146, 147, 148, 73, 953, 954, 955, 956, 957, 958, 959, 960, 961, 962, 963, 964, 965, 966, 967, 968] (by decide +kernel) (by decide +kernel)
set_option maxRecDepth 20000 in
theorem gL_law_X6_swap : GoodIn wsL_law (wsV RL 147 RX6 yX6_swap wsX6_swap) := goodIn_app (goodIn_of _ (by decide +kernel)) ggL_law_X6_swap
set_option maxRecDepth 20000 in
theorem ggL_law_L_append : GoodIn wsL_law wsL_append := goodIn_ca (goodIn_ca (goodIn_r _ [532, 81, 82, 533, 534, 535, 2, 536, 25, 90, 91, 92, 93, 94, 95, 96, 97, 537, 24, 538, 539, 540, 105, 106, 107, 108, 109, 541, 542, 543, 61, 948, 949, 950, 951, 952, 974, 975, 976] (by decide +kernel) (by decide +kernel)) (goodIn_sub (fun _ h => List.mem_append_left _ (List.mem_append_left _ (List.mem_append_right _ h))) (by decide +kernel))) (goodIn_sub (fun _ h => List.mem_append_left _ (List.mem_append_right _ h)) (by decide +kernel))
set_option maxRecDepth 20000 in
theorem gL_law_L_append : GoodIn wsL_law (va_wsS RL 148 yL_append wsL_append) := goodIn_app (goodIn_of _ (by decide +kernel)) ggL_law_L_append
set_option maxRecDepth 20000 in
theorem ggL_law_X6_append : GoodIn wsL_law wsX6_append := goodIn_r _ [547, 136, 548, 74, 137, 138, 5, 139, 140, 141, 142, 143, 953, 954, 955, 956, 957, 958, 959, 960, 961, 962, 963, 964, 965, 966, 967, 968] (by decide +kernel) (by decide +kernel)
set_option maxRecDepth 20000 in
theorem gL_law_X6_append : GoodIn wsL_law (wsV RL 150 RX6 yX6_append wsX6_append) := goodIn_app (goodIn_of _ (by decide +kernel)) ggL_law_X6_append
set_option maxRecDepth 20000 in
theorem ggL_law_X5_clearBuffer : GoodIn wsL_law wsX5_clearBuffer := goodIn_r _ [552, 25, 537, 24, 538, 539, 540, 553, 554, 555, 948, 949, 950, 951, 952, 974, 975, 976] (by decide +kernel) (by decide +kernel)
set_option maxRecDepth 20000 in
theorem gL_law_X5_clearBuffer : GoodIn wsL_law (wsV RL 151 RX5 yX5_clearBuffer wsX5_clearBuffer) := goodIn_app (goodIn_of _ (by decide +kernel)) ggL_law_X5_clearBuffer
set_option maxRecDepth 20000 in
theorem ggL_law_X6_clearBuffer : GoodIn wsL_law wsX6_clearBuffer := goodIn_r _ [559, 136, 548, 953, 954, 955, 956, 957, 958, 959, 960, 961, 962, 963, 964, 965, 966, 967, 968] (by decide +kernel) (by decide +kernel)
set_option maxRecDepth 20000 in
theorem gL_law_X6_clearBuffer : GoodIn wsL_law (wsV RL 154 RX6 yX6_clearBuffer wsX6_clearBuffer) := goodIn_app (goodIn_of _ (by decide +kernel)) ggL_law_X6_clearBuffer
set_option maxRecDepth 20000 in
theorem ggL_law_X5_firstError : GoodIn wsL_law wsX5_firstError := goodIn_r _ [563, 25, 564, 24, 565, 566, 63, 540, 567, 28, 568, 569, 570, 571, 572, 573, 574, 575, 576, 577, 578, 61, 43, 2, 44, 579, 580, 581, 582, 583, 584, 585, 586, 587, 588, 589, 590, 591, 592, 593, 594, 595, 596, 597, 598, 599, 600, 601, 602, 603, 604, 605, 606, 607, 608, 609, 948, 949, 950, 951, 952, 974, 975, 976, 977, 978, 979, 980, 981] (by decide +kernel) (by decide +kernel)
set_option maxRecDepth 20000 in
theorem gL_law_X5_firstError : GoodIn wsL_law (wsV RL 155 RX5 yX5_firstError wsX5_firstError) := goodIn_app (goodIn_of _ (by decide +kernel)) ggL_law_X5_firstError
set_option maxRecDepth 20000 in
theorem ggL_law_X6_firstError : GoodIn wsL_law wsX6_firstError := goodIn_r _ [613, 136, 614, 615, 616, 5, 617, 618, 619, 620, 621, 622, 623, 548, 74, 624, 625, 626, 627, 628, 629, 630, 631, 137, 138, 139, 632, 633, 634, 635, 636, 637, 638, 639, 640, 953, 954, 955, 956, 957, 958, 959, 960, 961, 962, 963, 964, 965, 966, 967, 968] (by decide +kernel) (by decide +kernel)
set_option maxRecDepth 20000 in
theorem gL_law_X6_firstError : GoodIn wsL_law (wsV RL 158 RX6 yX6_firstError wsX6_firstError) := goodIn_app (goodIn_of _ (by decide +kernel)) ggL_law_X6_firstError
set_option maxRecDepth 20000 in
theorem ggL_law_L_run : GoodIn wsL_law wsL_run := goodIn_ca (goodIn_r _ [643, 81, 644, 645, 646, 2, 647, 25, 21, 17, 648, 24, 649, 650, 540, 63, 651, 564, 565, 566, 567, 28, 568, 569, 570, 571, 572, 573, 574, 575, 576, 577, 578, 61, 43, 44, 579, 580, 581, 582, 583, 584, 585, 586, 587, 588, 589, 590, 591, 592, 593, 594, 595, 596, 597, 598, 599, 600, 601, 602, 603, 604, 605, 606, 607, 608, 609, 93, 94, 95, 96, 97, 110, 20, 111, 112, 113, 114, 115, 116, 117, 118, 57, 119, 35, 120, 121, 42, 122, 123, 124, 125, 652, 653, 654, 655, 29, 537, 538, 539, 656, 657, 658, 659, 660, 661, 662, 663, 664, 665, 666, 667, 668, 16, 669, 670, 671, 672, 673, 674, 675, 248, 249, 250, 251, 98, 99, 100, 101, 102, 103, 104, 290, 291, 292, 293, 294, 15, 295, 296, 36, 198, 199, 200, 190, 191, 192, 297, 298, 299, 300, 301, 302, 303, 304, 230, 231, 232, 339, 340, 341, 342, 343, 344, 375, 376, 377, 348, 349, 350, 351, 400, 401, 402, 446, 447, 448, 449, 450, 451, 452, 676, 677, 678, 679, 305, 306, 307, 129, 130, 131, 49, 50, 51, 52, 164, 165, 166, 126, 127, 128, 345, 346, 347, 378, 379, 380, 403, 404, 405, 406, 407, 408, 409, 453, 454, 455, 456, 457, 458, 459, 38, 460, 461, 462, 463, 464, 465, 466, 467, 680, 681, 682, 553, 554, 555, 948, 949, 950, 951, 952, 974, 975, 976, 977, 978, 979, 980, 981, 971, 972, 973, 982, 969, 970] (by decide +kernel) (by decide +kernel)) (goodIn_sub (fun _ h => List.mem_append_left _ (List.mem_append_left _ (List.mem_append_right _ h))) (by decide +kernel))
set_option maxRecDepth 20000 in
theorem gL_law_L_run : GoodIn wsL_law (va_wsS RL 159 yL_run wsL_run) := goodIn_app (goodIn_of _ (by decide +kernel)) ggL_law_L_run
set_option maxRecDepth 20000 in
theorem ggL_law_X6_run : GoodIn wsL_law wsX6_run := goodIn_r _ [686, 136, 548, 623, 71, 618, 614, 615, 616, 5, 617, 619, 620, 621, 622, 74, 624, 625, 626, 627, 628, 629, 630, 631, 137, 138, 139, 632, 633, 634, 635, 636, 637, 638, 639, 640, 140, 141, 142, 143, 144, 145, 146, 147, 148, 73, 687, 688, 689, 690, 312, 313, 314, 315, 263, 264, 265, 266, 316, 317, 318, 319, 267, 268, 269, 270, 149, 150, 151, 210, 211, 212, 213, 172, 173, 174, 320, 321, 322, 323, 324, 325, 326, 327, 356, 357, 358, 359, 385, 386, 387, 388, 364, 365, 366, 367, 414, 415, 416, 417, 472, 473, 474, 475, 476, 477, 478, 479, 691, 692, 693, 694, 328, 329, 330, 331, 360, 361, 362, 363, 389, 390, 391, 392, 418, 419, 420, 421, 422, 423, 424, 480, 481, 482, 483, 484, 485, 486, 487, 953, 954, 955, 956, 957, 958, 959, 960, 961, 962, 963, 964, 965, 966, 967, 968] (by decide +kernel) (by decide +kernel)
set_option maxRecDepth 20000 in
theorem gL_law_X6_run : GoodIn wsL_law (wsV RL 162 RX6 yX6_run wsX6_run) := goodIn_app (goodIn_of _ (by decide +kernel)) ggL_law_X6_run
set_option maxRecDepth 20000 in
theorem ggL_law_L_undo : GoodIn wsL_law wsL_undo := goodIn_ca (goodIn_r _ [697, 82, 698, 699, 700, 2, 701, 21, 17, 702, 20, 703, 704, 114, 105, 106, 107, 108, 109, 705, 706, 707, 113, 115, 116, 117, 118, 57, 119, 35, 120, 121, 42, 122, 123, 124, 125, 948, 949, 950, 951, 952, 971, 972, 973, 982] (by decide +kernel) (by decide +kernel)) (goodIn_sub (fun _ h => List.mem_append_left _ (List.mem_append_right _ h)) (by decide +kernel))
set_option maxRecDepth 20000 in
theorem gL_law_L_undo : GoodIn wsL_law (va_wsS RL 163 yL_undo wsL_undo) := goodIn_app (goodIn_of _ (by decide +kernel)) ggL_law_L_undo
set_option maxRecDepth 20000 in
theorem ggL_law_X6_undo : GoodIn wsL_law wsX6_undo := goodIn_r _ [711, 136, 148, 71, 73, 140, 141, 142, 5, 143, 953, 954, 955, 956, 957, 958, 959, 960, 961, 962, 963, 964, 965, 966, 967, 968] (by decide +kernel) (by decide +kernel)
set_option maxRecDepth 20000 in
theorem gL_law_X6_undo : GoodIn wsL_law (wsV RL 165 RX6 yX6_undo wsX6_undo) := goodIn_app (goodIn_of _ (by decide +kernel)) ggL_law_X6_undo
set_option maxRecDepth 20000 in
theorem ggL_law_L_brand : GoodIn wsL_law wsL_brand := goodIn_ca (goodIn_ca (goodIn_r _ [714, 217, 81, 715, 716, 717, 2, 718, 17, 244, 245, 246, 247, 227, 228, 248, 249, 250, 251, 98, 35, 99, 100, 101, 102, 103, 104, 42, 90, 91, 92, 93, 94, 95, 96, 97, 719, 720, 721, 185, 186, 187, 188, 189, 190, 191, 192, 197, 198, 199, 200, 948, 949, 950, 951, 952, 982] (by decide +kernel) (by decide +kernel)) (goodIn_sub (fun _ h => List.mem_append_right _ h) (by decide +kernel))) (goodIn_sub (fun _ h => List.mem_append_left _ (List.mem_append_left _ (List.mem_append_right _ h))) (by decide +kernel))
set_option maxRecDepth 20000 in
theorem gL_law_L_brand : GoodIn wsL_law (va_wsS RL 166 yL_brand wsL_brand) := goodIn_app (goodIn_of _ (by decide +kernel)) ggL_law_L_brand
set_option maxRecDepth 20000 in
theorem ggL_law_X6_brand : GoodIn wsL_law wsX6_brand := goodIn_r _ [725, 136, 263, 264, 265, 5, 266, 71, 137, 138, 139, 140, 141, 142, 143, 726, 727, 728, 729, 267, 268, 269, 270, 149, 150, 151, 730, 731, 732, 733, 210, 211, 212, 213, 172, 173, 174, 953, 954, 955, 956, 957, 958, 959, 960, 961, 962, 963, 964, 965, 966, 967, 968] (by decide +kernel) (by decide +kernel)
set_option maxRecDepth 20000 in
theorem gL_law_X6_brand : GoodIn wsL_law (wsV RL 168 RX6 yX6_brand wsX6_brand) := goodIn_app (goodIn_of _ (by decide +kernel)) ggL_law_X6_brand
set_option maxRecDepth 20000 in
theorem ggL_law_L_shop : GoodIn wsL_law wsL_shop := goodIn_ca (goodIn_ca (goodIn_r _ [736, 217, 81, 737, 738, 739, 2, 740, 17, 286, 287, 288, 289, 227, 228, 290, 291, 292, 293, 98, 35, 99, 100, 101, 102, 103, 104, 42, 741, 742, 743, 93, 94, 95, 96, 97, 744, 745, 746, 747, 748, 749, 750, 189, 190, 191, 192, 948, 949, 950, 951, 952, 982] (by decide +kernel) (by decide +kernel)) (goodIn_sub (fun _ h => List.mem_append_right _ h) (by decide +kernel))) (goodIn_sub (fun _ h => List.mem_append_left _ (List.mem_append_left _ (List.mem_append_right _ h))) (by decide +kernel))
set_option maxRecDepth 20000 in
theorem gL_law_L_shop : GoodIn wsL_law (va_wsS RL 169 yL_shop wsL_shop) := goodIn_app (goodIn_of _ (by decide +kernel)) ggL_law_L_shop
set_option maxRecDepth 20000 in
theorem ggL_law_X6_shop : GoodIn wsL_law wsX6_shop := goodIn_r _ [754, 136, 312, 313, 314, 5, 315, 71, 137, 138, 139, 140, 141, 142, 143, 755, 756, 757, 758, 210, 211, 212, 213, 172, 173, 174, 759, 760, 761, 762, 953, 954, 955, 956, 957, 958, 959, 960, 961, 962, 963, 964, 965, 966, 967, 968] (by decide +kernel) (by decide +kernel)
set_option maxRecDepth 20000 in
theorem gL_law_X6_shop : GoodIn wsL_law (wsV RL 171 RX6 yX6_shop wsX6_shop) := goodIn_app (goodIn_of _ (by decide +kernel)) ggL_law_X6_shop
set_option maxRecDepth 20000 in
theorem ggL_law_L_count : GoodIn wsL_law wsL_count := goodIn_ca (goodIn_r _ [765, 81, 766, 767, 768, 2, 769, 21, 17, 90, 91, 92, 93, 94, 95, 96, 97, 702, 20, 703, 704, 114, 182, 35, 183, 184, 185, 186, 187, 188, 189, 190, 191, 192, 101, 102, 103, 104, 42, 193, 194, 195, 196, 197, 198, 199, 200, 201, 98, 99, 100, 948, 949, 950, 951, 952, 971, 972, 973, 982] (by decide +kernel) (by decide +kernel)) (goodIn_sub (fun _ h => List.mem_append_left _ (List.mem_append_left _ (List.mem_append_right _ h))) (by decide +kernel))
set_option maxRecDepth 20000 in
theorem gL_law_L_count : GoodIn wsL_law (va_wsS RL 172 yL_count wsL_count) := goodIn_app (goodIn_of _ (by decide +kernel)) ggL_law_L_count
set_option maxRecDepth 20000 in
theorem ggL_law_X6_count : GoodIn wsL_law wsX6_count := goodIn_r _ [773, 136, 137, 138, 5, 139, 774, 775, 776, 777, 71, 148, 267, 268, 269, 270, 149, 150, 151, 206, 207, 208, 209, 210, 211, 212, 213, 172, 173, 174, 140, 141, 142, 143, 953, 954, 955, 956, 957, 958, 959, 960, 961, 962, 963, 964, 965, 966, 967, 968] (by decide +kernel) (by decide +kernel)
set_option maxRecDepth 20000 in
theorem gL_law_X6_count : GoodIn wsL_law (wsV RL 174 RX6 yX6_count wsX6_count) := goodIn_app (goodIn_of _ (by decide +kernel)) ggL_law_X6_count
set_option maxRecDepth 20000 in
theorem ggL_law_L_setting : GoodIn wsL_law wsL_setting := goodIn_ca (goodIn_r _ [780, 217, 781, 782, 783, 2, 784, 17, 224, 225, 226, 227, 228, 230, 35, 231, 232, 101, 102, 103, 104, 42, 948, 949, 950, 951, 952, 982] (by decide +kernel) (by decide +kernel)) (goodIn_sub (fun _ h => List.mem_append_right _ h) (by decide +kernel))
set_option maxRecDepth 20000 in
theorem gL_law_L_setting : GoodIn wsL_law (va_wsS RL 175 yL_setting wsL_setting) := goodIn_app (goodIn_of _ (by decide +kernel)) ggL_law_L_setting
set_option maxRecDepth 20000 in
theorem ggL_law_X6_setting : GoodIn wsL_law wsX6_setting := goodIn_r _ [788, 136, 71, 137, 138, 5, 139, 140, 141, 142, 143, 953, 954, 955, 956, 957, 958, 959, 960, 961, 962, 963, 964, 965, 966, 967, 968] (by decide +kernel) (by decide +kernel)
set_option maxRecDepth 20000 in
theorem gL_law_X6_setting : GoodIn wsL_law (wsV RL 177 RX6 yX6_setting wsX6_setting) := goodIn_app (goodIn_of _ (by decide +kernel)) ggL_law_X6_setting
set_option maxRecDepth 20000 in
theorem ggL_law_L_whyNotDeliver : GoodIn wsL_law wsL_whyNotDeliver := goodIn_ca (goodIn_ca (goodIn_r _ [791, 217, 81, 792, 793, 794, 2, 795, 16, 244, 245, 246, 247, 227, 228, 248, 249, 250, 251, 17, 98, 35, 99, 100, 101, 102, 103, 104, 42, 286, 287, 288, 289, 290, 291, 292, 293, 90, 91, 92, 93, 94, 95, 96, 97, 294, 15, 295, 296, 36, 198, 199, 200, 190, 191, 192, 297, 298, 299, 300, 301, 302, 303, 304, 230, 231, 232, 948, 949, 950, 951, 952, 982, 969, 970] (by decide +kernel) (by decide +kernel)) (goodIn_sub (fun _ h => List.mem_append_right _ h) (by decide +kernel))) (goodIn_sub (fun _ h => List.mem_append_left _ (List.mem_append_left _ (List.mem_append_right _ h))) (by decide +kernel))
set_option maxRecDepth 20000 in
theorem gL_law_L_whyNotDeliver : GoodIn wsL_law (va_wsS RL 178 yL_whyNotDeliver wsL_whyNotDeliver) := goodIn_app (goodIn_of _ (by decide +kernel)) ggL_law_L_whyNotDeliver
set_option maxRecDepth 20000 in
theorem ggL_law_X6_whyNotDeliver : GoodIn wsL_law wsX6_whyNotDeliver := goodIn_r _ [799, 136, 263, 264, 265, 5, 266, 71, 137, 138, 139, 312, 313, 314, 315, 140, 141, 142, 143, 316, 317, 318, 319, 267, 268, 269, 270, 149, 150, 151, 210, 211, 212, 213, 172, 173, 174, 320, 321, 322, 323, 324, 325, 326, 327, 953, 954, 955, 956, 957, 958, 959, 960, 961, 962, 963, 964, 965, 966, 967, 968] (by decide +kernel) (by decide +kernel)
set_option maxRecDepth 20000 in
theorem gL_law_X6_whyNotDeliver : GoodIn wsL_law (wsV RL 180 RX6 yX6_whyNotDeliver wsX6_whyNotDeliver) := goodIn_app (goodIn_of _ (by decide +kernel)) ggL_law_X6_whyNotDeliver
set_option maxRecDepth 20000 in
theorem ggL_law_L_whyNotCollect : GoodIn wsL_law wsL_whyNotCollect := goodIn_ca (goodIn_ca (goodIn_r _ [802, 217, 81, 803, 804, 805, 2, 806, 16, 286, 287, 288, 289, 227, 228, 290, 291, 292, 293, 17, 98, 35, 99, 100, 101, 102, 103, 104, 42, 87, 88, 89, 90, 91, 92, 93, 94, 95, 96, 97, 446, 15, 447, 448, 36, 449, 450, 451, 452, 198, 199, 200, 190, 191, 192, 948, 949, 950, 951, 952, 982, 969, 970] (by decide +kernel) (by decide +kernel)) (goodIn_sub (fun _ h => List.mem_append_right _ h) (by decide +kernel))) (goodIn_sub (fun _ h => List.mem_append_left _ (List.mem_append_left _ (List.mem_append_right _ h))) (by decide +kernel))
set_option maxRecDepth 20000 in
theorem gL_law_L_whyNotCollect : GoodIn wsL_law (va_wsS RL 181 yL_whyNotCollect wsL_whyNotCollect) := goodIn_app (goodIn_of _ (by decide +kernel)) ggL_law_L_whyNotCollect
set_option maxRecDepth 20000 in
theorem ggL_law_X6_whyNotCollect : GoodIn wsL_law wsX6_whyNotCollect := goodIn_r _ [810, 136, 312, 313, 314, 5, 315, 71, 137, 138, 139, 140, 141, 142, 143, 472, 473, 474, 475, 476, 477, 478, 479, 267, 268, 269, 270, 149, 150, 151, 210, 211, 212, 213, 172, 173, 174, 953, 954, 955, 956, 957, 958, 959, 960, 961, 962, 963, 964, 965, 966, 967, 968] (by decide +kernel) (by decide +kernel)
set_option maxRecDepth 20000 in
theorem gL_law_X6_whyNotCollect : GoodIn wsL_law (wsV RL 183 RX6 yX6_whyNotCollect wsX6_whyNotCollect) := goodIn_app (goodIn_of _ (by decide +kernel)) ggL_law_X6_whyNotCollect
set_option maxRecDepth 20000 in
theorem ggL_law_L_mostCrates : GoodIn wsL_law wsL_mostCrates := goodIn_ca (goodIn_r _ [813, 217, 814, 815, 816, 2, 817, 16, 244, 245, 246, 247, 227, 228, 248, 249, 250, 251, 17, 98, 35, 99, 100, 101, 102, 103, 104, 42, 286, 287, 288, 289, 290, 291, 292, 293, 818, 15, 819, 820, 36, 406, 407, 408, 409, 297, 298, 299, 300, 198, 199, 200, 301, 302, 303, 304, 230, 231, 232, 190, 191, 192, 948, 949, 950, 951, 952, 982, 969, 970] (by decide +kernel) (by decide +kernel)) (goodIn_sub (fun _ h => List.mem_append_right _ h) (by decide +kernel))
set_option maxRecDepth 20000 in
theorem gL_law_L_mostCrates : GoodIn wsL_law (va_wsS RL 184 yL_mostCrates wsL_mostCrates) := goodIn_app (goodIn_of _ (by decide +kernel)) ggL_law_L_mostCrates
set_option maxRecDepth 20000 in
theorem ggL_law_X6_mostCrates : GoodIn wsL_law wsX6_mostCrates := goodIn_r _ [824, 136, 263, 264, 265, 5, 266, 71, 137, 138, 139, 312, 313, 314, 315, 825, 826, 827, 828, 316, 317, 318, 319, 267, 268, 269, 270, 149, 150, 151, 210, 211, 212, 213, 172, 173, 174, 320, 321, 322, 323, 324, 325, 326, 327, 140, 141, 142, 143, 953, 954, 955, 956, 957, 958, 959, 960, 961, 962, 963, 964, 965, 966, 967, 968] (by decide +kernel) (by decide +kernel)
set_option maxRecDepth 20000 in
theorem gL_law_X6_mostCrates : GoodIn wsL_law (wsV RL 186 RX6 yX6_mostCrates wsX6_mostCrates) := goodIn_app (goodIn_of _ (by decide +kernel)) ggL_law_X6_mostCrates
set_option maxRecDepth 20000 in
theorem ggL_law_L_collected : GoodIn wsL_law wsL_collected := goodIn_ca (goodIn_ca (goodIn_r _ [831, 217, 81, 832, 833, 834, 2, 835, 16, 286, 287, 288, 289, 227, 228, 290, 291, 292, 293, 17, 98, 35, 99, 100, 101, 102, 103, 104, 42, 244, 245, 246, 247, 248, 249, 250, 251, 90, 91, 92, 93, 94, 95, 96, 97, 836, 15, 837, 838, 36, 198, 199, 200, 839, 446, 447, 448, 449, 450, 451, 452, 190, 191, 192, 456, 457, 458, 459, 38, 460, 461, 462, 463, 464, 465, 466, 467, 43, 44, 948, 949, 950, 951, 952, 982, 969, 970] (by decide +kernel) (by decide +kernel)) (goodIn_sub (fun _ h => List.mem_append_right _ h) (by decide +kernel))) (goodIn_sub (fun _ h => List.mem_append_left _ (List.mem_append_left _ (List.mem_append_right _ h))) (by decide +kernel))
set_option maxRecDepth 20000 in
theorem gL_law_L_collected : GoodIn wsL_law (va_wsS RL 187 yL_collected wsL_collected) := goodIn_app (goodIn_of _ (by decide +kernel)) ggL_law_L_collected
set_option maxRecDepth 20000 in
theorem ggL_law_X6_collected : GoodIn wsL_law wsX6_collected := goodIn_r _ [843, 136, 312, 313, 314, 5, 315, 71, 137, 138, 139, 263, 264, 265, 266, 140, 141, 142, 143, 844, 845, 846, 847, 72, 267, 268, 269, 270, 149, 150, 151, 472, 473, 474, 475, 476, 477, 478, 479, 210, 211, 212, 213, 172, 173, 174, 480, 481, 482, 483, 484, 485, 486, 487, 324, 325, 326, 327, 953, 954, 955, 956, 957, 958, 959, 960, 961, 962, 963, 964, 965, 966, 967, 968] (by decide +kernel) (by decide +kernel)
set_option maxRecDepth 20000 in
theorem gL_law_X6_collected : GoodIn wsL_law (wsV RL 189 RX6 yX6_collected wsX6_collected) := goodIn_app (goodIn_of _ (by decide +kernel)) ggL_law_X6_collected
set_option maxRecDepth 20000 in
theorem ggL_law_L_filled : GoodIn wsL_law wsL_filled := goodIn_ca (goodIn_ca (goodIn_r _ [850, 217, 81, 851, 852, 853, 2, 854, 16, 244, 245, 246, 247, 227, 228, 248, 249, 250, 251, 17, 98, 35, 99, 100, 101, 102, 103, 104, 42, 90, 91, 92, 93, 94, 95, 96, 97, 256, 15, 257, 258, 36, 230, 231, 232, 198, 199, 200, 948, 949, 950, 951, 952, 982, 969, 970] (by decide +kernel) (by decide +kernel)) (goodIn_sub (fun _ h => List.mem_append_right _ h) (by decide +kernel))) (goodIn_sub (fun _ h => List.mem_append_left _ (List.mem_append_left _ (List.mem_append_right _ h))) (by decide +kernel))
set_option maxRecDepth 20000 in
theorem gL_law_L_filled : GoodIn wsL_law (va_wsS RL 190 yL_filled wsL_filled) := goodIn_app (goodIn_of _ (by decide +kernel)) ggL_law_L_filled
set_option maxRecDepth 20000 in
theorem ggL_law_X6_filled : GoodIn wsL_law wsX6_filled := goodIn_r _ [858, 136, 263, 264, 265, 5, 266, 71, 137, 138, 139, 140, 141, 142, 143, 275, 276, 277, 278, 267, 268, 269, 270, 149, 150, 151, 953, 954, 955, 956, 957, 958, 959, 960, 961, 962, 963, 964, 965, 966, 967, 968] (by decide +kernel) (by decide +kernel)
set_option maxRecDepth 20000 in
theorem gL_law_X6_filled : GoodIn wsL_law (wsV RL 192 RX6 yX6_filled wsX6_filled) := goodIn_app (goodIn_of _ (by decide +kernel)) ggL_law_X6_filled
set_option maxRecDepth 20000 in
theorem ggL_law_L_bestShop : GoodIn wsL_law wsL_bestShop := goodIn_ca (goodIn_r _ [861, 81, 862, 863, 864, 2, 865, 16, 87, 88, 89, 90, 91, 92, 93, 94, 95, 96, 97, 866, 15, 867, 868, 869, 870, 871, 872, 36, 406, 407, 408, 409, 449, 450, 451, 452, 198, 35, 199, 200, 101, 102, 103, 104, 42, 190, 191, 192, 948, 949, 950, 951, 952, 969, 970, 982] (by decide +kernel) (by decide +kernel)) (goodIn_sub (fun _ h => List.mem_append_left _ (List.mem_append_left _ (List.mem_append_right _ h))) (by decide +kernel))
set_option maxRecDepth 20000 in
theorem gL_law_L_bestShop : GoodIn wsL_law (va_wsS RL 193 yL_bestShop wsL_bestShop) := goodIn_app (goodIn_of _ (by decide +kernel)) ggL_law_L_bestShop
set_option maxRecDepth 20000 in
theorem ggL_law_X6_bestShop : GoodIn wsL_law wsX6_bestShop := goodIn_r _ [876, 136, 137, 138, 5, 139, 877, 878, 879, 880, 71, 476, 477, 478, 479, 267, 268, 269, 270, 149, 150, 151, 210, 211, 212, 213, 172, 173, 174, 422, 423, 424, 140, 141, 142, 143, 953, 954, 955, 956, 957, 958, 959, 960, 961, 962, 963, 964, 965, 966, 967, 968] (by decide +kernel) (by decide +kernel)
set_option maxRecDepth 20000 in
theorem gL_law_X6_bestShop : GoodIn wsL_law (wsV RL 195 RX6 yX6_bestShop wsX6_bestShop) := goodIn_app (goodIn_of _ (by decide +kernel)) ggL_law_X6_bestShop
set_option maxRecDepth 20000 in
theorem ggL_law_X5_goneShare : GoodIn wsL_law wsX5_goneShare := goodIn_r _ [884, 17, 885, 35, 886, 887, 888, 719, 720, 721, 185, 186, 187, 188, 189, 190, 191, 192, 101, 102, 103, 104, 42, 197, 198, 199, 200, 948, 949, 950, 951, 952, 982] (by decide +kernel) (by decide +kernel)
set_option maxRecDepth 20000 in
theorem gL_law_X5_goneShare : GoodIn wsL_law (wsV RL 196 RX5 yX5_goneShare wsX5_goneShare) := goodIn_app (goodIn_of _ (by decide +kernel)) ggL_law_X5_goneShare
set_option maxRecDepth 20000 in
theorem ggL_law_X6_goneShare : GoodIn wsL_law wsX6_goneShare := goodIn_r _ [892, 136, 893, 894, 895, 5, 896, 71, 726, 727, 728, 729, 267, 268, 269, 270, 149, 150, 151, 730, 731, 732, 733, 210, 211, 212, 213, 172, 173, 174, 953, 954, 955, 956, 957, 958, 959, 960, 961, 962, 963, 964, 965, 966, 967, 968] (by decide +kernel) (by decide +kernel)
set_option maxRecDepth 20000 in
theorem gL_law_X6_goneShare : GoodIn wsL_law (wsV RL 200 RX6 yX6_goneShare wsX6_goneShare) := goodIn_app (goodIn_of _ (by decide +kernel)) ggL_law_X6_goneShare
set_option maxRecDepth 20000 in
theorem ggL_law_X5_digest : GoodIn wsL_law wsX5_digest := goodIn_ca (goodIn_r _ [900, 901, 17, 16, 902, 767, 768, 2, 769, 21, 90, 91, 92, 93, 94, 95, 96, 97, 702, 20, 703, 704, 114, 182, 35, 183, 184, 185, 186, 187, 188, 189, 190, 191, 192, 101, 102, 103, 104, 42, 193, 194, 195, 196, 197, 198, 199, 200, 201, 98, 99, 100, 903, 904, 905, 906, 230, 231, 232, 907, 908, 909, 910, 719, 720, 721, 256, 15, 257, 258, 36, 818, 819, 820, 406, 407, 408, 409, 297, 298, 299, 300, 301, 302, 303, 304, 911, 912, 913, 914, 741, 742, 743, 744, 745, 746, 747, 748, 749, 750, 866, 867, 868, 869, 870, 871, 872, 449, 450, 451, 452, 915, 916, 917, 918, 836, 837, 838, 839, 446, 447, 448, 456, 457, 458, 459, 38, 460, 461, 462, 463, 464, 465, 466, 467, 43, 44, 919, 882, 883, 884, 885, 886, 887, 888, 920, 921, 922, 923, 924, 925, 926, 927, 928, 929, 25, 537, 24, 538, 539, 540, 576, 577, 578, 61, 948, 949, 950, 951, 952, 971, 972, 973, 982, 969, 970, 974, 975, 976] (by decide +kernel) (by decide +kernel)) (goodIn_sub (fun _ h => List.mem_append_left _ (List.mem_append_left _ (List.mem_append_right _ h))) (by decide +kernel))
set_option maxRecDepth 20000 in
theorem gL_law_X5_digest : GoodIn wsL_law (wsV RL 201 RX5 yX5_digest wsX5_digest) := goodIn_app (goodIn_of _ (by decide +kernel)) ggL_law_X5_digest
set_option maxRecDepth 20000 in
theorem ggL_law_X6_digest : GoodIn wsL_law wsX6_digest := goodIn_r _ [933, 136, 934, 935, 71, 548, 74, 774, 775, 776, 5, 777, 148, 267, 268, 269, 270, 149, 150, 151, 206, 207, 208, 209, 210, 211, 212, 213, 172, 173, 174, 726, 727, 728, 729, 730, 731, 732, 733, 275, 276, 277, 278, 825, 826, 827, 828, 316, 317, 318, 319, 320, 321, 322, 323, 324, 325, 326, 327, 755, 756, 757, 758, 759, 760, 761, 762, 877, 878, 879, 880, 476, 477, 478, 479, 422, 423, 424, 844, 845, 846, 847, 72, 472, 473, 474, 475, 480, 481, 482, 483, 484, 485, 486, 487, 893, 894, 895, 896, 936, 937, 938, 939, 940, 941, 942, 943, 944, 945, 946, 947, 953, 954, 955, 956, 957, 958, 959, 960, 961, 962, 963, 964, 965, 966, 967, 968] (by decide +kernel) (by decide +kernel)
set_option maxRecDepth 20000 in
theorem gL_law_X6_digest : GoodIn wsL_law (wsV RL 205 RX6 yX6_digest wsX6_digest) := goodIn_app (goodIn_of _ (by decide +kernel)) ggL_law_X6_digest
