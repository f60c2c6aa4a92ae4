set_option maxRecDepth 20000 in
theorem ggL_law_X8_init : GoodIn wsL_law wsX8_init := goodIn_r _ [10, 11, 12, 13, 14, 15, 16, 17, 18, 19, 20, 21, 22, 23, 24, 25, 26, 27, 28, 29, 30, 31, 32, 33, 34, 35, 36, 37, 38, 39, 40, 41, 42, 43, 44, 45, 46, 47, 48, 49, 50, 51, 52, 53, 54, 55, 56, 57, 58, 59, 60, 61, 62, 63, 64, 65, 66, 67, 68, 69, 70, 953, 954, 936, 937, 938, 939, 940, 941, 955, 956, 957, 958, 959, 960, 961, 962, 963, 964, 965, 966] (by decide +kernel) (by decide +kernel)
set_option maxRecDepth 20000 in
theorem gL_law_X8_init : GoodIn wsL_law (wsX8_init) := ggL_law_X8_init
set_option maxRecDepth 20000 in
theorem ggL_law_X9_init : GoodIn wsL_law wsX9_init := goodIn_r _ [73, 74, 12, 13, 41, 75, 76, 77, 78, 79, 80, 81, 6, 82, 942, 943, 944, 945, 946, 947, 948, 949, 950, 951, 952] (by decide +kernel) (by decide +kernel)
set_option maxRecDepth 20000 in
theorem gL_law_X9_init : GoodIn wsL_law (wsX9_init) := ggL_law_X9_init
set_option maxRecDepth 20000 in
theorem ggL_law_L_append : GoodIn wsL_law wsL_append := goodIn_ca (goodIn_ca (goodIn_r _ [86, 87, 88, 89, 90, 91, 2, 92, 17, 93, 94, 95, 96, 97, 98, 99, 100, 101, 102, 103, 104, 105, 106, 16, 107, 43, 108, 109, 110, 111, 112, 113, 114, 115, 42, 116, 117, 118, 119, 936, 937, 938, 939, 940, 941, 953, 954] (by decide +kernel) (by decide +kernel)) (goodIn_sub (fun _ h => List.mem_append_left _ (List.mem_append_left _ (List.mem_append_right _ h))) (by decide +kernel))) (goodIn_sub (fun _ h => List.mem_append_left _ (List.mem_append_right _ h)) (by decide +kernel))
set_option maxRecDepth 20000 in
theorem gL_law_L_append : GoodIn wsL_law (va_wsS RL 139 yL_append wsL_append) := goodIn_app (goodIn_of _ (by decide +kernel)) ggL_law_L_append
set_option maxRecDepth 20000 in
theorem ggL_law_X9_append : GoodIn wsL_law wsX9_append := goodIn_r _ [123, 124, 75, 125, 126, 5, 127, 128, 129, 130, 131, 132, 942, 943, 944, 945, 946, 947, 948, 949, 950, 951, 952] (by decide +kernel) (by decide +kernel)
set_option maxRecDepth 20000 in
theorem gL_law_X9_append : GoodIn wsL_law (wsV RL 144 RX9 yX9_append wsX9_append) := goodIn_app (goodIn_of _ (by decide +kernel)) ggL_law_X9_append
set_option maxRecDepth 20000 in
theorem ggL_law_X9_thrown : GoodIn wsL_law wsX9_thrown := goodIn_r _ [136, 132, 942, 943, 944, 945, 946, 947, 948, 949, 950, 951, 952] (by decide +kernel) (by decide +kernel)
set_option maxRecDepth 20000 in
theorem gL_law_X9_thrown : GoodIn wsL_law (wsV RL 145 RX9 yX9_thrown wsX9_thrown) := goodIn_app (goodIn_of _ (by decide +kernel)) ggL_law_X9_thrown
set_option maxRecDepth 20000 in
theorem ggL_law_L_insert : GoodIn wsL_law wsL_insert := goodIn_ca (goodIn_ca (goodIn_ca (goodIn_r _ [139, 140, 87, 88, 141, 142, 143, 2, 144, 17, 104, 105, 106, 16, 107, 43, 145, 146, 147, 148, 149, 93, 94, 95, 96, 97, 98, 99, 100, 101, 102, 103, 150, 113, 114, 115, 42, 116, 117, 118, 119, 936, 937, 938, 939, 940, 941, 953, 954] (by decide +kernel) (by decide +kernel)) (goodIn_sub (fun _ h => List.mem_append_right _ h) (by decide +kernel))) (goodIn_sub (fun _ h => List.mem_append_left _ (List.mem_append_left _ (List.mem_append_right _ h))) (by decide +kernel))) (goodIn_sub (fun _ h => List.mem_append_left _ (List.mem_append_right _ h)) (by decide +kernel))
set_option maxRecDepth 20000 in
theorem gL_law_L_insert : GoodIn wsL_law (va_wsS RL 149 yL_insert wsL_insert) := goodIn_app (goodIn_of _ (by decide +kernel)) ggL_law_L_insert
set_option maxRecDepth 20000 in
theorem ggL_law_X9_insert : GoodIn wsL_law wsX9_insert := goodIn_r _ [154, 124, 75, 125, 126, 5, 127, 128, 129, 130, 131, 132, 942, 943, 944, 945, 946, 947, 948, 949, 950, 951, 952] (by decide +kernel) (by decide +kernel)
set_option maxRecDepth 20000 in
theorem gL_law_X9_insert : GoodIn wsL_law (wsV RL 152 RX9 yX9_insert wsX9_insert) := goodIn_app (goodIn_of _ (by decide +kernel)) ggL_law_X9_insert
set_option maxRecDepth 20000 in
theorem ggL_law_L_set : GoodIn wsL_law wsL_set := goodIn_ca (goodIn_ca (goodIn_r _ [157, 140, 87, 158, 159, 160, 2, 161, 17, 104, 105, 106, 16, 107, 43, 145, 146, 147, 148, 149, 93, 94, 95, 96, 97, 162, 163, 164, 165, 42, 116, 117, 166, 167, 168, 169, 118, 119, 936, 937, 938, 939, 940, 941, 953, 954] (by decide +kernel) (by decide +kernel)) (goodIn_sub (fun _ h => List.mem_append_right _ h) (by decide +kernel))) (goodIn_sub (fun _ h => List.mem_append_left _ (List.mem_append_left _ (List.mem_append_right _ h))) (by decide +kernel))
set_option maxRecDepth 20000 in
theorem gL_law_L_set : GoodIn wsL_law (va_wsS RL 153 yL_set wsL_set) := goodIn_app (goodIn_of _ (by decide +kernel)) ggL_law_L_set
set_option maxRecDepth 20000 in
theorem ggL_law_X9_set : GoodIn wsL_law wsX9_set := goodIn_r _ [173, 75, 174, 175, 176, 5, 177, 124, 125, 126, 127, 128, 129, 130, 131, 132, 942, 943, 944, 945, 946, 947, 948, 949, 950, 951, 952] (by decide +kernel) (by decide +kernel)
set_option maxRecDepth 20000 in
theorem gL_law_X9_set : GoodIn wsL_law (wsV RL 155 RX9 yX9_set wsX9_set) := goodIn_app (goodIn_of _ (by decide +kernel)) ggL_law_X9_set
set_option maxRecDepth 20000 in
theorem ggL_law_L_remove : GoodIn wsL_law wsL_remove := goodIn_ca (goodIn_r _ [180, 140, 181, 182, 183, 2, 184, 17, 104, 105, 106, 16, 107, 43, 145, 146, 147, 148, 149, 185, 186, 187, 188, 42, 116, 117, 118, 119, 936, 937, 938, 939, 940, 941, 953, 954] (by decide +kernel) (by decide +kernel)) (goodIn_sub (fun _ h => List.mem_append_right _ h) (by decide +kernel))
set_option maxRecDepth 20000 in
theorem gL_law_L_remove : GoodIn wsL_law (va_wsS RL 156 yL_remove wsL_remove) := goodIn_app (goodIn_of _ (by decide +kernel)) ggL_law_L_remove
set_option maxRecDepth 20000 in
theorem ggL_law_X9_remove : GoodIn wsL_law wsX9_remove := goodIn_r _ [192, 75, 124, 174, 175, 176, 5, 177, 125, 126, 127, 128, 129, 130, 131, 132, 942, 943, 944, 945, 946, 947, 948, 949, 950, 951, 952] (by decide +kernel) (by decide +kernel)
set_option maxRecDepth 20000 in
theorem gL_law_X9_remove : GoodIn wsL_law (wsV RL 158 RX9 yX9_remove wsX9_remove) := goodIn_app (goodIn_of _ (by decide +kernel)) ggL_law_X9_remove
set_option maxRecDepth 20000 in
theorem ggL_law_X8_clear : GoodIn wsL_law wsX8_clear := goodIn_r _ [196, 17, 104, 105, 106, 16, 107, 43, 197, 198, 199, 200, 936, 937, 938, 939, 940, 941, 953, 954] (by decide +kernel) (by decide +kernel)
set_option maxRecDepth 20000 in
theorem gL_law_X8_clear : GoodIn wsL_law (wsV RL 159 RX8 yX8_clear wsX8_clear) := goodIn_app (goodIn_of _ (by decide +kernel)) ggL_law_X8_clear
set_option maxRecDepth 20000 in
theorem ggL_law_X9_clear : GoodIn wsL_law wsX9_clear := goodIn_r _ [204, 132, 124, 942, 943, 944, 945, 946, 947, 948, 949, 950, 951, 952] (by decide +kernel) (by decide +kernel)
set_option maxRecDepth 20000 in
theorem gL_law_X9_clear : GoodIn wsL_law (wsV RL 162 RX9 yX9_clear wsX9_clear) := goodIn_app (goodIn_of _ (by decide +kernel)) ggL_law_X9_clear
set_option maxRecDepth 20000 in
theorem ggL_law_X8_reverse : GoodIn wsL_law wsX8_reverse := goodIn_r _ [208, 17, 104, 105, 106, 16, 107, 43, 209, 210, 211, 212, 42, 116, 2, 117, 118, 119, 936, 937, 938, 939, 940, 941, 953, 954] (by decide +kernel) (by decide +kernel)
set_option maxRecDepth 20000 in
theorem gL_law_X8_reverse : GoodIn wsL_law (wsV RL 163 RX8 yX8_reverse wsX8_reverse) := goodIn_app (goodIn_of _ (by decide +kernel)) ggL_law_X8_reverse
set_option maxRecDepth 20000 in
theorem ggL_law_X9_reverse : GoodIn wsL_law wsX9_reverse := goodIn_r _ [216, 132, 124, 75, 76, 217, 218, 219, 5, 220, 942, 943, 944, 945, 946, 947, 948, 949, 950, 951, 952] (by decide +kernel) (by decide +kernel)
set_option maxRecDepth 20000 in
theorem gL_law_X9_reverse : GoodIn wsL_law (wsV RL 166 RX9 yX9_reverse wsX9_reverse) := goodIn_app (goodIn_of _ (by decide +kernel)) ggL_law_X9_reverse
set_option maxRecDepth 20000 in
theorem ggL_law_L_rotate : GoodIn wsL_law wsL_rotate := goodIn_ca (goodIn_ca (goodIn_r _ [223, 87, 88, 224, 225, 226, 2, 227, 102, 103, 17, 93, 94, 95, 96, 97, 104, 105, 106, 16, 107, 43, 209, 210, 211, 212, 42, 116, 117, 118, 119, 162, 163, 164, 165, 936, 937, 938, 939, 940, 941, 953, 954] (by decide +kernel) (by decide +kernel)) (goodIn_sub (fun _ h => List.mem_append_left _ (List.mem_append_right _ h)) (by decide +kernel))) (goodIn_sub (fun _ h => List.mem_append_left _ (List.mem_append_left _ (List.mem_append_right _ h))) (by decide +kernel))
set_option maxRecDepth 20000 in
theorem gL_law_L_rotate : GoodIn wsL_law (va_wsS RL 167 yL_rotate wsL_rotate) := goodIn_app (goodIn_of _ (by decide +kernel)) ggL_law_L_rotate
set_option maxRecDepth 20000 in
theorem ggL_law_X9_rotate : GoodIn wsL_law wsX9_rotate := goodIn_r _ [231, 124, 75, 76, 125, 126, 5, 127, 128, 129, 130, 131, 132, 217, 218, 219, 220, 942, 943, 944, 945, 946, 947, 948, 949, 950, 951, 952] (by decide +kernel) (by decide +kernel)
set_option maxRecDepth 20000 in
theorem gL_law_X9_rotate : GoodIn wsL_law (wsV RL 169 RX9 yX9_rotate wsX9_rotate) := goodIn_app (goodIn_of _ (by decide +kernel)) ggL_law_X9_rotate
set_option maxRecDepth 20000 in
theorem ggL_law_L_appendPart : GoodIn wsL_law wsL_appendPart := goodIn_ca (goodIn_ca (goodIn_r _ [234, 140, 88, 235, 236, 237, 2, 238, 17, 239, 240, 241, 242, 148, 149, 104, 105, 106, 16, 107, 43, 98, 99, 100, 101, 102, 103, 162, 163, 164, 165, 42, 116, 117, 108, 109, 110, 111, 112, 113, 114, 115, 118, 119, 936, 937, 938, 939, 940, 941, 953, 954] (by decide +kernel) (by decide +kernel)) (goodIn_sub (fun _ h => List.mem_append_right _ h) (by decide +kernel))) (goodIn_sub (fun _ h => List.mem_append_left _ (List.mem_append_right _ h)) (by decide +kernel))
set_option maxRecDepth 20000 in
theorem gL_law_L_appendPart : GoodIn wsL_law (va_wsS RL 170 yL_appendPart wsL_appendPart) := goodIn_app (goodIn_of _ (by decide +kernel)) ggL_law_L_appendPart
set_option maxRecDepth 20000 in
theorem ggL_law_X9_appendPart : GoodIn wsL_law wsX9_appendPart := goodIn_r _ [246, 124, 75, 247, 248, 249, 5, 250, 128, 129, 130, 131, 132, 942, 943, 944, 945, 946, 947, 948, 949, 950, 951, 952] (by decide +kernel) (by decide +kernel)
set_option maxRecDepth 20000 in
theorem gL_law_X9_appendPart : GoodIn wsL_law (wsV RL 172 RX9 yX9_appendPart wsX9_appendPart) := goodIn_app (goodIn_of _ (by decide +kernel)) ggL_law_X9_appendPart
set_option maxRecDepth 20000 in
theorem ggL_law_L_loadDeBruijn : GoodIn wsL_law wsL_loadDeBruijn := goodIn_ca (goodIn_r _ [253, 87, 254, 255, 256, 2, 257, 96, 97, 258, 17, 37, 93, 94, 95, 259, 260, 261, 262, 197, 198, 199, 16, 200, 43, 263, 264, 265, 36, 266, 67, 68, 69, 70, 267, 268, 269, 270, 271, 272, 273, 274, 275, 276, 277, 278, 108, 109, 110, 111, 112, 113, 114, 115, 42, 116, 117, 118, 119, 279, 280, 281, 282, 283, 284, 285, 286, 287, 288, 289, 290, 104, 105, 106, 107, 936, 937, 938, 939, 940, 941, 953, 954, 963, 964, 965, 966] (by decide +kernel) (by decide +kernel)) (goodIn_sub (fun _ h => List.mem_append_left _ (List.mem_append_left _ (List.mem_append_right _ h))) (by decide +kernel))
set_option maxRecDepth 20000 in
theorem gL_law_L_loadDeBruijn : GoodIn wsL_law (va_wsS RL 173 yL_loadDeBruijn wsL_loadDeBruijn) := goodIn_app (goodIn_of _ (by decide +kernel)) ggL_law_L_loadDeBruijn
set_option maxRecDepth 20000 in
theorem ggL_law_X9_loadDeBruijn : GoodIn wsL_law wsX9_loadDeBruijn := goodIn_r _ [294, 124, 75, 81, 295, 296, 5, 297, 125, 126, 127, 128, 129, 130, 131, 132, 298, 299, 300, 301, 80, 302, 303, 304, 305, 306, 307, 308, 309, 310, 311, 312, 313, 314, 315, 316, 317, 318, 319, 942, 943, 944, 945, 946, 947, 948, 949, 950, 951, 952] (by decide +kernel) (by decide +kernel)
set_option maxRecDepth 20000 in
theorem gL_law_X9_loadDeBruijn : GoodIn wsL_law (wsV RL 175 RX9 yX9_loadDeBruijn wsX9_loadDeBruijn) := goodIn_app (goodIn_of _ (by decide +kernel)) ggL_law_X9_loadDeBruijn
set_option maxRecDepth 20000 in
theorem ggL_law_L_loadNecklace : GoodIn wsL_law wsL_loadNecklace := goodIn_ca (goodIn_r _ [322, 87, 323, 324, 325, 2, 326, 96, 97, 37, 17, 93, 94, 95, 327, 328, 261, 329, 330, 331, 332, 333, 334, 335, 336, 260, 262, 263, 264, 265, 36, 266, 67, 68, 69, 70, 279, 280, 281, 282, 283, 284, 285, 286, 287, 288, 289, 290, 197, 198, 199, 16, 200, 43, 271, 272, 273, 274, 275, 276, 277, 278, 108, 109, 110, 111, 112, 113, 114, 115, 42, 116, 117, 118, 119, 267, 268, 269, 270, 936, 937, 938, 939, 940, 941, 963, 964, 965, 966, 953, 954] (by decide +kernel) (by decide +kernel)) (goodIn_sub (fun _ h => List.mem_append_left _ (List.mem_append_left _ (List.mem_append_right _ h))) (by decide +kernel))
set_option maxRecDepth 20000 in
theorem gL_law_L_loadNecklace : GoodIn wsL_law (va_wsS RL 176 yL_loadNecklace wsL_loadNecklace) := goodIn_app (goodIn_of _ (by decide +kernel)) ggL_law_L_loadNecklace
set_option maxRecDepth 20000 in
theorem ggL_law_X9_loadNecklace : GoodIn wsL_law wsX9_loadNecklace := goodIn_r _ [340, 124, 75, 80, 125, 126, 5, 127, 341, 342, 343, 344, 302, 303, 304, 305, 306, 307, 308, 345, 346, 347, 348, 128, 129, 130, 131, 132, 349, 350, 351, 352, 353, 354, 355, 356, 942, 943, 944, 945, 946, 947, 948, 949, 950, 951, 952] (by decide +kernel) (by decide +kernel)
set_option maxRecDepth 20000 in
theorem gL_law_X9_loadNecklace : GoodIn wsL_law (wsV RL 179 RX9 yX9_loadNecklace wsX9_loadNecklace) := goodIn_app (goodIn_of _ (by decide +kernel)) ggL_law_X9_loadNecklace
set_option maxRecDepth 20000 in
theorem ggL_law_X8_length : GoodIn wsL_law wsX8_length := goodIn_r _ [360, 17, 104, 105, 106, 16, 107, 43, 936, 937, 938, 939, 940, 941, 953, 954] (by decide +kernel) (by decide +kernel)
set_option maxRecDepth 20000 in
theorem gL_law_X8_length : GoodIn wsL_law (wsV RL 180 RX8 yX8_length wsX8_length) := goodIn_app (goodIn_of _ (by decide +kernel)) ggL_law_X8_length
set_option maxRecDepth 20000 in
theorem ggL_law_X9_length : GoodIn wsL_law wsX9_length := goodIn_r _ [364, 132, 124, 942, 943, 944, 945, 946, 947, 948, 949, 950, 951, 952] (by decide +kernel) (by decide +kernel)
set_option maxRecDepth 20000 in
theorem gL_law_X9_length : GoodIn wsL_law (wsV RL 183 RX9 yX9_length wsX9_length) := goodIn_app (goodIn_of _ (by decide +kernel)) ggL_law_X9_length
set_option maxRecDepth 20000 in
theorem ggL_law_L_letterAt : GoodIn wsL_law wsL_letterAt := goodIn_ca (goodIn_r _ [367, 140, 368, 369, 370, 2, 371, 17, 104, 105, 106, 16, 107, 43, 145, 146, 147, 148, 149, 162, 163, 164, 165, 42, 116, 117, 936, 937, 938, 939, 940, 941, 953, 954] (by decide +kernel) (by decide +kernel)) (goodIn_sub (fun _ h => List.mem_append_right _ h) (by decide +kernel))
set_option maxRecDepth 20000 in
theorem gL_law_L_letterAt : GoodIn wsL_law (va_wsS RL 184 yL_letterAt wsL_letterAt) := goodIn_app (goodIn_of _ (by decide +kernel)) ggL_law_L_letterAt
set_option maxRecDepth 20000 in
theorem ggL_law_X9_letterAt : GoodIn wsL_law wsX9_letterAt := goodIn_r _ [375, 75, 174, 175, 176, 5, 177, 124, 125, 126, 127, 128, 129, 130, 131, 132, 942, 943, 944, 945, 946, 947, 948, 949, 950, 951, 952] (by decide +kernel) (by decide +kernel)
set_option maxRecDepth 20000 in
theorem gL_law_X9_letterAt : GoodIn wsL_law (wsV RL 186 RX9 yX9_letterAt wsX9_letterAt) := goodIn_app (goodIn_of _ (by decide +kernel)) ggL_law_X9_letterAt
set_option maxRecDepth 20000 in
theorem ggL_law_L_compare : GoodIn wsL_law wsL_compare := goodIn_ca (goodIn_r _ [378, 140, 379, 380, 381, 2, 382, 383, 384, 385, 386, 17, 239, 240, 241, 242, 148, 149, 104, 105, 106, 16, 107, 43, 387, 388, 389, 390, 391, 392, 393, 42, 116, 117, 162, 163, 164, 165, 394, 395, 396, 397, 936, 937, 938, 939, 940, 941, 953, 954] (by decide +kernel) (by decide +kernel)) (goodIn_sub (fun _ h => List.mem_append_right _ h) (by decide +kernel))
set_option maxRecDepth 20000 in
theorem gL_law_L_compare : GoodIn wsL_law (va_wsS RL 187 yL_compare wsL_compare) := goodIn_app (goodIn_of _ (by decide +kernel)) ggL_law_L_compare
set_option maxRecDepth 20000 in
theorem ggL_law_X9_compare : GoodIn wsL_law wsX9_compare := goodIn_r _ [401, 247, 248, 249, 5, 250, 124, 128, 129, 130, 131, 132, 402, 403, 404, 405, 75, 406, 407, 408, 409, 942, 943, 944, 945, 946, 947, 948, 949, 950, 951, 952] (by decide +kernel) (by decide +kernel)
set_option maxRecDepth 20000 in
theorem gL_law_X9_compare : GoodIn wsL_law (wsV RL 190 RX9 yX9_compare wsX9_compare) := goodIn_app (goodIn_of _ (by decide +kernel)) ggL_law_X9_compare
set_option maxRecDepth 20000 in
theorem ggL_law_L_commonPrefix : GoodIn wsL_law wsL_commonPrefix := goodIn_ca (goodIn_r _ [412, 140, 413, 414, 415, 2, 416, 17, 104, 105, 106, 16, 107, 43, 145, 146, 147, 148, 149, 387, 388, 389, 390, 391, 392, 385, 393, 42, 116, 117, 936, 937, 938, 939, 940, 941, 953, 954] (by decide +kernel) (by decide +kernel)) (goodIn_sub (fun _ h => List.mem_append_right _ h) (by decide +kernel))
set_option maxRecDepth 20000 in
theorem gL_law_L_commonPrefix : GoodIn wsL_law (va_wsS RL 191 yL_commonPrefix wsL_commonPrefix) := goodIn_app (goodIn_of _ (by decide +kernel)) ggL_law_L_commonPrefix
set_option maxRecDepth 20000 in
theorem ggL_law_X9_commonPrefix : GoodIn wsL_law wsX9_commonPrefix := goodIn_r _ [420, 124, 125, 126, 5, 127, 128, 129, 130, 131, 132, 406, 407, 408, 409, 75, 942, 943, 944, 945, 946, 947, 948, 949, 950, 951, 952] (by decide +kernel) (by decide +kernel)
set_option maxRecDepth 20000 in
theorem gL_law_X9_commonPrefix : GoodIn wsL_law (wsV RL 193 RX9 yX9_commonPrefix wsX9_commonPrefix) := goodIn_app (goodIn_of _ (by decide +kernel)) ggL_law_X9_commonPrefix
set_option maxRecDepth 20000 in
theorem ggL_law_L_isLyndon : GoodIn wsL_law wsL_isLyndon := goodIn_ca (goodIn_r _ [423, 140, 424, 425, 426, 2, 427, 17, 239, 240, 241, 242, 148, 149, 104, 105, 106, 16, 107, 43, 428, 429, 20, 430, 431, 432, 433, 434, 163, 164, 165, 42, 116, 117, 936, 937, 938, 939, 940, 941, 953, 954] (by decide +kernel) (by decide +kernel)) (goodIn_sub (fun _ h => List.mem_append_right _ h) (by decide +kernel))
set_option maxRecDepth 20000 in
theorem gL_law_L_isLyndon : GoodIn wsL_law (va_wsS RL 194 yL_isLyndon wsL_isLyndon) := goodIn_app (goodIn_of _ (by decide +kernel)) ggL_law_L_isLyndon
set_option maxRecDepth 20000 in
theorem ggL_law_X9_isLyndon : GoodIn wsL_law wsX9_isLyndon := goodIn_r _ [438, 247, 248, 249, 5, 250, 124, 128, 129, 130, 131, 132, 439, 440, 441, 442, 402, 403, 404, 405, 75, 406, 407, 408, 409, 942, 943, 944, 945, 946, 947, 948, 949, 950, 951, 952] (by decide +kernel) (by decide +kernel)
set_option maxRecDepth 20000 in
theorem gL_law_X9_isLyndon : GoodIn wsL_law (wsV RL 196 RX9 yX9_isLyndon wsX9_isLyndon) := goodIn_app (goodIn_of _ (by decide +kernel)) ggL_law_X9_isLyndon
set_option maxRecDepth 20000 in
theorem ggL_law_X8_factors : GoodIn wsL_law wsX8_factors := goodIn_r _ [446, 21, 17, 447, 448, 449, 20, 450, 48, 47, 451, 105, 106, 16, 107, 43, 118, 2, 119, 431, 432, 433, 434, 163, 164, 165, 42, 116, 117, 452, 453, 454, 455, 936, 937, 938, 939, 940, 941, 955, 956, 953, 954] (by decide +kernel) (by decide +kernel)
set_option maxRecDepth 20000 in
theorem gL_law_X8_factors : GoodIn wsL_law (wsV RL 197 RX8 yX8_factors wsX8_factors) := goodIn_app (goodIn_of _ (by decide +kernel)) ggL_law_X8_factors
set_option maxRecDepth 20000 in
theorem ggL_law_X9_factors : GoodIn wsL_law wsX9_factors := goodIn_r _ [459, 132, 460, 461, 462, 5, 463, 124, 464, 465, 466, 467, 439, 440, 441, 442, 402, 403, 404, 405, 75, 406, 407, 408, 409, 942, 943, 944, 945, 946, 947, 948, 949, 950, 951, 952] (by decide +kernel) (by decide +kernel)
set_option maxRecDepth 20000 in
theorem gL_law_X9_factors : GoodIn wsL_law (wsV RL 200 RX9 yX9_factors wsX9_factors) := goodIn_app (goodIn_of _ (by decide +kernel)) ggL_law_X9_factors
set_option maxRecDepth 20000 in
theorem ggL_law_L_factorStart : GoodIn wsL_law wsL_factorStart := goodIn_ca (goodIn_r _ [470, 140, 471, 472, 473, 2, 474, 21, 475, 476, 477, 478, 17, 447, 448, 449, 20, 450, 48, 47, 451, 105, 106, 16, 107, 43, 118, 119, 431, 432, 433, 434, 163, 164, 165, 42, 116, 117, 452, 453, 454, 455, 145, 146, 147, 148, 149, 479, 480, 481, 482, 936, 937, 938, 939, 940, 941, 955, 956, 953, 954] (by decide +kernel) (by decide +kernel)) (goodIn_sub (fun _ h => List.mem_append_right _ h) (by decide +kernel))
set_option maxRecDepth 20000 in
theorem gL_law_L_factorStart : GoodIn wsL_law (va_wsS RL 201 yL_factorStart wsL_factorStart) := goodIn_app (goodIn_of _ (by decide +kernel)) ggL_law_L_factorStart
set_option maxRecDepth 20000 in
theorem ggL_law_X9_factorStart : GoodIn wsL_law wsX9_factorStart := goodIn_r _ [486, 460, 461, 462, 5, 463, 124, 464, 465, 466, 467, 439, 440, 441, 442, 402, 403, 404, 405, 75, 406, 407, 408, 409, 125, 126, 127, 128, 129, 130, 131, 132, 487, 488, 489, 490, 942, 943, 944, 945, 946, 947, 948, 949, 950, 951, 952] (by decide +kernel) (by decide +kernel)
set_option maxRecDepth 20000 in
theorem gL_law_X9_factorStart : GoodIn wsL_law (wsV RL 203 RX9 yX9_factorStart wsX9_factorStart) := goodIn_app (goodIn_of _ (by decide +kernel)) ggL_law_X9_factorStart
set_option maxRecDepth 20000 in
theorem ggL_law_L_factorLength : GoodIn wsL_law wsL_factorLength := goodIn_ca (goodIn_r _ [493, 140, 494, 495, 496, 2, 497, 21, 475, 476, 477, 478, 17, 447, 448, 449, 20, 450, 48, 47, 451, 105, 106, 16, 107, 43, 118, 119, 431, 432, 433, 434, 163, 164, 165, 42, 116, 117, 452, 453, 454, 455, 145, 146, 147, 148, 149, 479, 480, 481, 482, 936, 937, 938, 939, 940, 941, 955, 956, 953, 954] (by decide +kernel) (by decide +kernel)) (goodIn_sub (fun _ h => List.mem_append_right _ h) (by decide +kernel))
set_option maxRecDepth 20000 in
theorem gL_law_L_factorLength : GoodIn wsL_law (va_wsS RL 204 yL_factorLength wsL_factorLength) := goodIn_app (goodIn_of _ (by decide +kernel)) ggL_law_L_factorLength
set_option maxRecDepth 20000 in
theorem ggL_law_X9_factorLength : GoodIn wsL_law wsX9_factorLength := goodIn_r _ [501, 460, 461, 462, 5, 463, 124, 464, 465, 466, 467, 439, 440, 441, 442, 402, 403, 404, 405, 75, 406, 407, 408, 409, 125, 126, 127, 128, 129, 130, 131, 132, 487, 488, 489, 490, 942, 943, 944, 945, 946, 947, 948, 949, 950, 951, 952] (by decide +kernel) (by decide +kernel)
set_option maxRecDepth 20000 in
theorem gL_law_X9_factorLength : GoodIn wsL_law (wsV RL 206 RX9 yX9_factorLength wsX9_factorLength) := goodIn_app (goodIn_of _ (by decide +kernel)) ggL_law_X9_factorLength
set_option maxRecDepth 20000 in
theorem ggL_law_L_factorOver : GoodIn wsL_law wsL_factorOver := goodIn_ca (goodIn_r _ [504, 140, 505, 506, 507, 2, 508, 17, 21, 104, 105, 106, 16, 107, 43, 145, 146, 147, 148, 149, 447, 448, 449, 20, 450, 48, 47, 451, 118, 119, 431, 432, 433, 434, 163, 164, 165, 42, 116, 117, 509, 510, 511, 512, 936, 937, 938, 939, 940, 941, 953, 954, 955, 956] (by decide +kernel) (by decide +kernel)) (goodIn_sub (fun _ h => List.mem_append_right _ h) (by decide +kernel))
set_option maxRecDepth 20000 in
theorem gL_law_L_factorOver : GoodIn wsL_law (va_wsS RL 207 yL_factorOver wsL_factorOver) := goodIn_app (goodIn_of _ (by decide +kernel)) ggL_law_L_factorOver
set_option maxRecDepth 20000 in
theorem ggL_law_X9_factorOver : GoodIn wsL_law wsX9_factorOver := goodIn_r _ [516, 174, 175, 176, 5, 177, 124, 125, 126, 127, 128, 129, 130, 131, 132, 487, 488, 489, 490, 464, 465, 466, 467, 439, 440, 441, 442, 402, 403, 404, 405, 75, 406, 407, 408, 409, 942, 943, 944, 945, 946, 947, 948, 949, 950, 951, 952] (by decide +kernel) (by decide +kernel)
set_option maxRecDepth 20000 in
theorem gL_law_X9_factorOver : GoodIn wsL_law (wsV RL 209 RX9 yX9_factorOver wsX9_factorOver) := goodIn_app (goodIn_of _ (by decide +kernel)) ggL_law_X9_factorOver
set_option maxRecDepth 20000 in
theorem ggL_law_L_longestLyndon : GoodIn wsL_law wsL_longestLyndon := goodIn_ca (goodIn_r _ [519, 140, 520, 521, 522, 2, 523, 17, 104, 105, 106, 16, 107, 43, 145, 146, 147, 148, 149, 524, 432, 20, 433, 434, 163, 164, 165, 42, 116, 117, 936, 937, 938, 939, 940, 941, 953, 954] (by decide +kernel) (by decide +kernel)) (goodIn_sub (fun _ h => List.mem_append_right _ h) (by decide +kernel))
set_option maxRecDepth 20000 in
theorem gL_law_L_longestLyndon : GoodIn wsL_law (va_wsS RL 210 yL_longestLyndon wsL_longestLyndon) := goodIn_app (goodIn_of _ (by decide +kernel)) ggL_law_L_longestLyndon
set_option maxRecDepth 20000 in
theorem ggL_law_X9_longestLyndon : GoodIn wsL_law wsX9_longestLyndon := goodIn_r _ [528, 174, 175, 176, 5, 177, 124, 125, 126, 127, 128, 129, 130, 131, 132, 464, 465, 466, 467, 439, 440, 441, 442, 402, 403, 404, 405, 75, 406, 407, 408, 409, 942, 943, 944, 945, 946, 947, 948, 949, 950, 951, 952] (by decide +kernel) (by decide +kernel)
set_option maxRecDepth 20000 in
theorem gL_law_X9_longestLyndon : GoodIn wsL_law (wsV RL 213 RX9 yX9_longestLyndon wsX9_longestLyndon) := goodIn_app (goodIn_of _ (by decide +kernel)) ggL_law_X9_longestLyndon
set_option maxRecDepth 20000 in
theorem ggL_law_L_standardFactor : GoodIn wsL_law wsL_standardFactor := goodIn_ca (goodIn_ca (goodIn_r _ [531, 140, 88, 532, 533, 534, 2, 535, 102, 103, 17, 239, 240, 241, 242, 148, 149, 104, 105, 106, 16, 107, 43, 428, 429, 20, 430, 431, 432, 433, 434, 163, 164, 165, 42, 116, 117, 936, 937, 938, 939, 940, 941, 953, 954] (by decide +kernel) (by decide +kernel)) (goodIn_sub (fun _ h => List.mem_append_left _ (List.mem_append_right _ h)) (by decide +kernel))) (goodIn_sub (fun _ h => List.mem_append_right _ h) (by decide +kernel))
set_option maxRecDepth 20000 in
theorem gL_law_L_standardFactor : GoodIn wsL_law (va_wsS RL 214 yL_standardFactor wsL_standardFactor) := goodIn_app (goodIn_of _ (by decide +kernel)) ggL_law_L_standardFactor
set_option maxRecDepth 20000 in
theorem ggL_law_X9_standardFactor : GoodIn wsL_law wsX9_standardFactor := goodIn_r _ [539, 247, 248, 249, 5, 250, 124, 439, 440, 441, 442, 402, 403, 404, 405, 75, 406, 407, 408, 409, 128, 129, 130, 131, 132, 942, 943, 944, 945, 946, 947, 948, 949, 950, 951, 952] (by decide +kernel) (by decide +kernel)
set_option maxRecDepth 20000 in
theorem gL_law_X9_standardFactor : GoodIn wsL_law (wsV RL 216 RX9 yX9_standardFactor wsX9_standardFactor) := goodIn_app (goodIn_of _ (by decide +kernel)) ggL_law_X9_standardFactor
set_option maxRecDepth 20000 in
theorem ggL_law_L_leastRotation : GoodIn wsL_law wsL_leastRotation := goodIn_ca (goodIn_r _ [542, 140, 543, 544, 545, 2, 546, 17, 239, 240, 241, 242, 148, 149, 104, 105, 106, 16, 107, 43, 547, 548, 549, 550, 551, 552, 553, 554, 555, 556, 557, 163, 164, 165, 42, 116, 117, 936, 937, 938, 939, 940, 941, 953, 954] (by decide +kernel) (by decide +kernel)) (goodIn_sub (fun _ h => List.mem_append_right _ h) (by decide +kernel))
set_option maxRecDepth 20000 in
theorem gL_law_L_leastRotation : GoodIn wsL_law (va_wsS RL 217 yL_leastRotation wsL_leastRotation) := goodIn_app (goodIn_of _ (by decide +kernel)) ggL_law_L_leastRotation
set_option maxRecDepth 20000 in
theorem ggL_law_X9_leastRotation : GoodIn wsL_law wsX9_leastRotation := goodIn_r _ [561, 247, 248, 249, 5, 250, 124, 128, 129, 130, 131, 132, 562, 563, 564, 565, 566, 567, 568, 569, 75, 942, 943, 944, 945, 946, 947, 948, 949, 950, 951, 952] (by decide +kernel) (by decide +kernel)
set_option maxRecDepth 20000 in
theorem gL_law_X9_leastRotation : GoodIn wsL_law (wsV RL 219 RX9 yX9_leastRotation wsX9_leastRotation) := goodIn_app (goodIn_of _ (by decide +kernel)) ggL_law_X9_leastRotation
set_option maxRecDepth 20000 in
theorem ggL_law_L_greatestRotation : GoodIn wsL_law wsL_greatestRotation := goodIn_ca (goodIn_r _ [572, 140, 573, 574, 575, 2, 576, 17, 239, 240, 241, 242, 148, 149, 104, 105, 106, 16, 107, 43, 577, 578, 549, 579, 551, 552, 553, 554, 555, 556, 557, 163, 164, 165, 42, 116, 117, 936, 937, 938, 939, 940, 941, 953, 954] (by decide +kernel) (by decide +kernel)) (goodIn_sub (fun _ h => List.mem_append_right _ h) (by decide +kernel))
set_option maxRecDepth 20000 in
theorem gL_law_L_greatestRotation : GoodIn wsL_law (va_wsS RL 220 yL_greatestRotation wsL_greatestRotation) := goodIn_app (goodIn_of _ (by decide +kernel)) ggL_law_L_greatestRotation
set_option maxRecDepth 20000 in
theorem ggL_law_X9_greatestRotation : GoodIn wsL_law wsX9_greatestRotation := goodIn_r _ [583, 247, 248, 249, 5, 250, 124, 128, 129, 130, 131, 132, 566, 567, 568, 569, 75, 942, 943, 944, 945, 946, 947, 948, 949, 950, 951, 952] (by decide +kernel) (by decide +kernel)
set_option maxRecDepth 20000 in
theorem gL_law_X9_greatestRotation : GoodIn wsL_law (wsV RL 222 RX9 yX9_greatestRotation wsX9_greatestRotation) := goodIn_app (goodIn_of _ (by decide +kernel)) ggL_law_X9_greatestRotation
set_option maxRecDepth 20000 in
theorem ggL_law_L_rotations : GoodIn wsL_law wsL_rotations := goodIn_ca (goodIn_r _ [586, 140, 587, 588, 589, 2, 590, 25, 17, 239, 240, 241, 242, 148, 149, 104, 105, 106, 16, 107, 43, 591, 592, 593, 24, 594, 595, 596, 597, 598, 599, 600, 601, 602, 52, 118, 119, 603, 604, 605, 606, 607, 163, 164, 165, 42, 116, 117, 936, 937, 938, 939, 940, 941, 953, 954, 957] (by decide +kernel) (by decide +kernel)) (goodIn_sub (fun _ h => List.mem_append_right _ h) (by decide +kernel))
set_option maxRecDepth 20000 in
theorem gL_law_L_rotations : GoodIn wsL_law (va_wsS RL 223 yL_rotations wsL_rotations) := goodIn_app (goodIn_of _ (by decide +kernel)) ggL_law_L_rotations
set_option maxRecDepth 20000 in
theorem ggL_law_X9_rotations : GoodIn wsL_law wsX9_rotations := goodIn_r _ [611, 247, 248, 249, 5, 250, 124, 128, 129, 130, 131, 132, 566, 567, 568, 569, 75, 942, 943, 944, 945, 946, 947, 948, 949, 950, 951, 952] (by decide +kernel) (by decide +kernel)
set_option maxRecDepth 20000 in
theorem gL_law_X9_rotations : GoodIn wsL_law (wsV RL 225 RX9 yX9_rotations wsX9_rotations) := goodIn_app (goodIn_of _ (by decide +kernel)) ggL_law_X9_rotations
set_option maxRecDepth 20000 in
theorem ggL_law_L_isNecklace : GoodIn wsL_law wsL_isNecklace := goodIn_ca (goodIn_r _ [614, 140, 615, 616, 617, 2, 618, 17, 239, 240, 241, 242, 148, 149, 104, 105, 106, 16, 107, 43, 547, 548, 549, 550, 551, 552, 553, 554, 555, 556, 557, 163, 164, 165, 42, 116, 117, 936, 937, 938, 939, 940, 941, 953, 954] (by decide +kernel) (by decide +kernel)) (goodIn_sub (fun _ h => List.mem_append_right _ h) (by decide +kernel))
set_option maxRecDepth 20000 in
theorem gL_law_L_isNecklace : GoodIn wsL_law (va_wsS RL 226 yL_isNecklace wsL_isNecklace) := goodIn_app (goodIn_of _ (by decide +kernel)) ggL_law_L_isNecklace
set_option maxRecDepth 20000 in
theorem ggL_law_X9_isNecklace : GoodIn wsL_law wsX9_isNecklace := goodIn_r _ [622, 247, 248, 249, 5, 250, 124, 128, 129, 130, 131, 132, 566, 567, 568, 569, 75, 942, 943, 944, 945, 946, 947, 948, 949, 950, 951, 952] (by decide +kernel) (by decide +kernel)
set_option maxRecDepth 20000 in
theorem gL_law_X9_isNecklace : GoodIn wsL_law (wsV RL 228 RX9 yX9_isNecklace wsX9_isNecklace) := goodIn_app (goodIn_of _ (by decide +kernel)) ggL_law_X9_isNecklace
set_option maxRecDepth 20000 in
theorem ggL_law_L_period : GoodIn wsL_law wsL_period := goodIn_ca (goodIn_r _ [625, 140, 626, 627, 628, 2, 629, 25, 17, 239, 240, 241, 242, 148, 149, 104, 105, 106, 16, 107, 43, 630, 596, 597, 24, 598, 599, 600, 601, 602, 52, 118, 119, 603, 604, 605, 606, 607, 163, 164, 165, 42, 116, 117, 936, 937, 938, 939, 940, 941, 953, 954, 957] (by decide +kernel) (by decide +kernel)) (goodIn_sub (fun _ h => List.mem_append_right _ h) (by decide +kernel))
set_option maxRecDepth 20000 in
theorem gL_law_L_period : GoodIn wsL_law (va_wsS RL 229 yL_period wsL_period) := goodIn_app (goodIn_of _ (by decide +kernel)) ggL_law_L_period
set_option maxRecDepth 20000 in
theorem ggL_law_X9_period : GoodIn wsL_law wsX9_period := goodIn_r _ [634, 247, 248, 249, 5, 250, 124, 128, 129, 130, 131, 132, 635, 636, 637, 638, 353, 354, 355, 356, 75, 942, 943, 944, 945, 946, 947, 948, 949, 950, 951, 952] (by decide +kernel) (by decide +kernel)
set_option maxRecDepth 20000 in
theorem gL_law_X9_period : GoodIn wsL_law (wsV RL 231 RX9 yX9_period wsX9_period) := goodIn_app (goodIn_of _ (by decide +kernel)) ggL_law_X9_period
set_option maxRecDepth 20000 in
theorem ggL_law_L_periodByTrying : GoodIn wsL_law wsL_periodByTrying := goodIn_ca (goodIn_r _ [641, 140, 642, 643, 644, 2, 645, 17, 239, 240, 241, 242, 148, 149, 104, 105, 106, 16, 107, 43, 646, 647, 648, 649, 650, 651, 652, 653, 42, 116, 117, 936, 937, 938, 939, 940, 941, 953, 954] (by decide +kernel) (by decide +kernel)) (goodIn_sub (fun _ h => List.mem_append_right _ h) (by decide +kernel))
set_option maxRecDepth 20000 in
theorem gL_law_L_periodByTrying : GoodIn wsL_law (va_wsS RL 232 yL_periodByTrying wsL_periodByTrying) := goodIn_app (goodIn_of _ (by decide +kernel)) ggL_law_L_periodByTrying
set_option maxRecDepth 20000 in
theorem ggL_law_X9_periodByTrying : GoodIn wsL_law wsX9_periodByTrying := goodIn_r _ [657, 247, 248, 249, 5, 250, 124, 128, 129, 130, 131, 132, 635, 636, 637, 638, 353, 354, 355, 356, 75, 942, 943, 944, 945, 946, 947, 948, 949, 950, 951, 952] (by decide +kernel) (by decide +kernel)
set_option maxRecDepth 20000 in
theorem gL_law_X9_periodByTrying : GoodIn wsL_law (wsV RL 234 RX9 yX9_periodByTrying wsX9_periodByTrying) := goodIn_app (goodIn_of _ (by decide +kernel)) ggL_law_X9_periodByTrying
set_option maxRecDepth 20000 in
theorem ggL_law_L_isPeriod : GoodIn wsL_law wsL_isPeriod := goodIn_ca (goodIn_ca (goodIn_r _ [660, 140, 87, 661, 662, 663, 2, 664, 17, 239, 240, 241, 242, 148, 149, 104, 105, 106, 16, 107, 43, 93, 94, 95, 96, 97, 665, 651, 652, 653, 42, 116, 117, 936, 937, 938, 939, 940, 941, 953, 954] (by decide +kernel) (by decide +kernel)) (goodIn_sub (fun _ h => List.mem_append_right _ h) (by decide +kernel))) (goodIn_sub (fun _ h => List.mem_append_left _ (List.mem_append_left _ (List.mem_append_right _ h))) (by decide +kernel))
set_option maxRecDepth 20000 in
theorem gL_law_L_isPeriod : GoodIn wsL_law (va_wsS RL 235 yL_isPeriod wsL_isPeriod) := goodIn_app (goodIn_of _ (by decide +kernel)) ggL_law_L_isPeriod
set_option maxRecDepth 20000 in
theorem ggL_law_X9_isPeriod : GoodIn wsL_law wsX9_isPeriod := goodIn_r _ [669, 247, 248, 249, 5, 250, 124, 125, 126, 127, 128, 129, 130, 131, 132, 353, 354, 355, 356, 75, 942, 943, 944, 945, 946, 947, 948, 949, 950, 951, 952] (by decide +kernel) (by decide +kernel)
set_option maxRecDepth 20000 in
theorem gL_law_X9_isPeriod : GoodIn wsL_law (wsV RL 237 RX9 yX9_isPeriod wsX9_isPeriod) := goodIn_app (goodIn_of _ (by decide +kernel)) ggL_law_X9_isPeriod
set_option maxRecDepth 20000 in
theorem ggL_law_L_periods : GoodIn wsL_law wsL_periods := goodIn_ca (goodIn_r _ [672, 140, 673, 674, 675, 2, 676, 25, 17, 239, 240, 241, 242, 148, 149, 104, 105, 106, 16, 107, 43, 677, 678, 679, 24, 680, 52, 599, 600, 601, 602, 118, 119, 603, 604, 605, 606, 607, 163, 164, 165, 42, 116, 117, 936, 937, 938, 939, 940, 941, 953, 954, 957] (by decide +kernel) (by decide +kernel)) (goodIn_sub (fun _ h => List.mem_append_right _ h) (by decide +kernel))
set_option maxRecDepth 20000 in
theorem gL_law_L_periods : GoodIn wsL_law (va_wsS RL 238 yL_periods wsL_periods) := goodIn_app (goodIn_of _ (by decide +kernel)) ggL_law_L_periods
set_option maxRecDepth 20000 in
theorem ggL_law_X9_periods : GoodIn wsL_law wsX9_periods := goodIn_r _ [684, 247, 248, 249, 5, 250, 124, 128, 129, 130, 131, 132, 353, 354, 355, 356, 75, 942, 943, 944, 945, 946, 947, 948, 949, 950, 951, 952] (by decide +kernel) (by decide +kernel)
set_option maxRecDepth 20000 in
theorem gL_law_X9_periods : GoodIn wsL_law (wsV RL 240 RX9 yX9_periods wsX9_periods) := goodIn_app (goodIn_of _ (by decide +kernel)) ggL_law_X9_periods
set_option maxRecDepth 20000 in
theorem ggL_law_L_border : GoodIn wsL_law wsL_border := goodIn_ca (goodIn_r _ [687, 140, 688, 689, 690, 2, 691, 25, 17, 239, 240, 241, 242, 148, 149, 104, 105, 106, 16, 107, 43, 692, 600, 601, 24, 602, 52, 118, 119, 603, 604, 605, 606, 607, 163, 164, 165, 42, 116, 117, 936, 937, 938, 939, 940, 941, 953, 954, 957] (by decide +kernel) (by decide +kernel)) (goodIn_sub (fun _ h => List.mem_append_right _ h) (by decide +kernel))
set_option maxRecDepth 20000 in
theorem gL_law_L_border : GoodIn wsL_law (va_wsS RL 241 yL_border wsL_border) := goodIn_app (goodIn_of _ (by decide +kernel)) ggL_law_L_border
set_option maxRecDepth 20000 in
theorem ggL_law_X9_border : GoodIn wsL_law wsX9_border := goodIn_r _ [696, 247, 248, 249, 5, 250, 124, 128, 129, 130, 131, 132, 406, 407, 408, 409, 75, 942, 943, 944, 945, 946, 947, 948, 949, 950, 951, 952] (by decide +kernel) (by decide +kernel)
set_option maxRecDepth 20000 in
theorem gL_law_X9_border : GoodIn wsL_law (wsV RL 243 RX9 yX9_border wsX9_border) := goodIn_app (goodIn_of _ (by decide +kernel)) ggL_law_X9_border
set_option maxRecDepth 20000 in
theorem ggL_law_L_rootLength : GoodIn wsL_law wsL_rootLength := goodIn_ca (goodIn_r _ [699, 140, 700, 701, 702, 2, 703, 25, 17, 239, 240, 241, 242, 148, 149, 104, 105, 106, 16, 107, 43, 591, 592, 593, 24, 594, 595, 596, 597, 598, 599, 600, 601, 602, 52, 118, 119, 603, 604, 605, 606, 607, 163, 164, 165, 42, 116, 117, 936, 937, 938, 939, 940, 941, 953, 954, 957] (by decide +kernel) (by decide +kernel)) (goodIn_sub (fun _ h => List.mem_append_right _ h) (by decide +kernel))
set_option maxRecDepth 20000 in
theorem gL_law_L_rootLength : GoodIn wsL_law (va_wsS RL 244 yL_rootLength wsL_rootLength) := goodIn_app (goodIn_of _ (by decide +kernel)) ggL_law_L_rootLength
set_option maxRecDepth 20000 in
theorem ggL_law_X9_rootLength : GoodIn wsL_law wsX9_rootLength := goodIn_r _ [707, 247, 248, 249, 5, 250, 124, 128, 129, 130, 131, 132, 349, 350, 351, 352, 353, 354, 355, 356, 75, 942, 943, 944, 945, 946, 947, 948, 949, 950, 951, 952] (by decide +kernel) (by decide +kernel)
set_option maxRecDepth 20000 in
theorem gL_law_X9_rootLength : GoodIn wsL_law (wsV RL 246 RX9 yX9_rootLength wsX9_rootLength) := goodIn_app (goodIn_of _ (by decide +kernel)) ggL_law_X9_rootLength
set_option maxRecDepth 20000 in
theorem ggL_law_L_exponent : GoodIn wsL_law wsL_exponent := goodIn_ca (goodIn_r _ [710, 140, 711, 712, 713, 2, 714, 25, 17, 239, 240, 241, 242, 148, 149, 104, 105, 106, 16, 107, 43, 630, 596, 597, 24, 598, 599, 600, 601, 602, 52, 118, 119, 603, 604, 605, 606, 607, 163, 164, 165, 42, 116, 117, 715, 716, 717, 936, 937, 938, 939, 940, 941, 953, 954, 957] (by decide +kernel) (by decide +kernel)) (goodIn_sub (fun _ h => List.mem_append_right _ h) (by decide +kernel))
set_option maxRecDepth 20000 in
theorem gL_law_L_exponent : GoodIn wsL_law (va_wsS RL 247 yL_exponent wsL_exponent) := goodIn_app (goodIn_of _ (by decide +kernel)) ggL_law_L_exponent
set_option maxRecDepth 20000 in
theorem ggL_law_X9_exponent : GoodIn wsL_law wsX9_exponent := goodIn_r _ [721, 247, 248, 249, 5, 250, 124, 128, 129, 130, 131, 132, 635, 636, 637, 638, 353, 354, 355, 356, 75, 942, 943, 944, 945, 946, 947, 948, 949, 950, 951, 952] (by decide +kernel) (by decide +kernel)
set_option maxRecDepth 20000 in
theorem gL_law_X9_exponent : GoodIn wsL_law (wsV RL 250 RX9 yX9_exponent wsX9_exponent) := goodIn_app (goodIn_of _ (by decide +kernel)) ggL_law_X9_exponent
set_option maxRecDepth 20000 in
theorem ggL_law_X8_runs : GoodIn wsL_law wsX8_runs := goodIn_r _ [725, 29, 17, 726, 727, 728, 28, 729, 59, 730, 105, 106, 16, 107, 43, 731, 732, 733, 734, 56, 57, 58, 735, 163, 164, 165, 42, 116, 2, 117, 736, 388, 389, 390, 391, 392, 385, 393, 737, 647, 648, 649, 650, 651, 652, 653, 118, 119, 738, 739, 740, 741, 936, 937, 938, 939, 940, 941, 958, 959, 960, 961, 953, 954] (by decide +kernel) (by decide +kernel)
set_option maxRecDepth 20000 in
theorem gL_law_X8_runs : GoodIn wsL_law (wsV RL 251 RX8 yX8_runs wsX8_runs) := goodIn_app (goodIn_of _ (by decide +kernel)) ggL_law_X8_runs
set_option maxRecDepth 20000 in
theorem ggL_law_X9_runs : GoodIn wsL_law wsX9_runs := goodIn_r _ [745, 132, 746, 747, 748, 749, 5, 750, 124, 75, 77, 78, 79, 406, 407, 408, 409, 635, 636, 637, 638, 353, 354, 355, 356, 942, 943, 944, 945, 946, 947, 948, 949, 950, 951, 952] (by decide +kernel) (by decide +kernel)
set_option maxRecDepth 20000 in
theorem gL_law_X9_runs : GoodIn wsL_law (wsV RL 254 RX9 yX9_runs wsX9_runs) := goodIn_app (goodIn_of _ (by decide +kernel)) ggL_law_X9_runs
set_option maxRecDepth 20000 in
theorem ggL_law_L_runStart : GoodIn wsL_law wsL_runStart := goodIn_ca (goodIn_r _ [753, 140, 754, 755, 756, 2, 757, 29, 758, 759, 760, 761, 17, 726, 727, 728, 28, 729, 59, 730, 105, 106, 16, 107, 43, 731, 732, 733, 734, 56, 57, 58, 735, 163, 164, 165, 42, 116, 117, 736, 388, 389, 390, 391, 392, 385, 393, 737, 647, 648, 649, 650, 651, 652, 653, 118, 119, 738, 739, 740, 741, 145, 146, 147, 148, 149, 762, 763, 764, 765, 936, 937, 938, 939, 940, 941, 958, 959, 960, 961, 953, 954] (by decide +kernel) (by decide +kernel)) (goodIn_sub (fun _ h => List.mem_append_right _ h) (by decide +kernel))
set_option maxRecDepth 20000 in
theorem gL_law_L_runStart : GoodIn wsL_law (va_wsS RL 255 yL_runStart wsL_runStart) := goodIn_app (goodIn_of _ (by decide +kernel)) ggL_law_L_runStart
set_option maxRecDepth 20000 in
theorem ggL_law_X9_runStart : GoodIn wsL_law wsX9_runStart := goodIn_r _ [769, 77, 770, 771, 772, 5, 773, 746, 747, 748, 749, 750, 124, 75, 78, 79, 406, 407, 408, 409, 635, 636, 637, 638, 353, 354, 355, 356, 125, 126, 127, 128, 129, 130, 131, 132, 942, 943, 944, 945, 946, 947, 948, 949, 950, 951, 952] (by decide +kernel) (by decide +kernel)
set_option maxRecDepth 20000 in
theorem gL_law_X9_runStart : GoodIn wsL_law (wsV RL 257 RX9 yX9_runStart wsX9_runStart) := goodIn_app (goodIn_of _ (by decide +kernel)) ggL_law_X9_runStart
set_option maxRecDepth 20000 in
theorem ggL_law_L_runEnd : GoodIn wsL_law wsL_runEnd := goodIn_ca (goodIn_r _ [776, 140, 777, 778, 779, 2, 780, 29, 758, 759, 760, 761, 17, 726, 727, 728, 28, 729, 59, 730, 105, 106, 16, 107, 43, 731, 732, 733, 734, 56, 57, 58, 735, 163, 164, 165, 42, 116, 117, 736, 388, 389, 390, 391, 392, 385, 393, 737, 647, 648, 649, 650, 651, 652, 653, 118, 119, 738, 739, 740, 741, 145, 146, 147, 148, 149, 781, 782, 783, 784, 936, 937, 938, 939, 940, 941, 958, 959, 960, 961, 953, 954] (by decide +kernel) (by decide +kernel)) (goodIn_sub (fun _ h => List.mem_append_right _ h) (by decide +kernel))
set_option maxRecDepth 20000 in
theorem gL_law_L_runEnd : GoodIn wsL_law (va_wsS RL 258 yL_runEnd wsL_runEnd) := goodIn_app (goodIn_of _ (by decide +kernel)) ggL_law_L_runEnd
set_option maxRecDepth 20000 in
theorem ggL_law_X9_runEnd : GoodIn wsL_law wsX9_runEnd := goodIn_r _ [788, 78, 770, 771, 772, 5, 773, 746, 747, 748, 749, 750, 124, 75, 77, 79, 406, 407, 408, 409, 635, 636, 637, 638, 353, 354, 355, 356, 125, 126, 127, 128, 129, 130, 131, 132, 942, 943, 944, 945, 946, 947, 948, 949, 950, 951, 952] (by decide +kernel) (by decide +kernel)
set_option maxRecDepth 20000 in
theorem gL_law_X9_runEnd : GoodIn wsL_law (wsV RL 260 RX9 yX9_runEnd wsX9_runEnd) := goodIn_app (goodIn_of _ (by decide +kernel)) ggL_law_X9_runEnd
set_option maxRecDepth 20000 in
theorem ggL_law_L_runPeriod : GoodIn wsL_law wsL_runPeriod := goodIn_ca (goodIn_r _ [791, 140, 792, 793, 794, 2, 795, 29, 758, 759, 760, 761, 17, 726, 727, 728, 28, 729, 59, 730, 105, 106, 16, 107, 43, 731, 732, 733, 734, 56, 57, 58, 735, 163, 164, 165, 42, 116, 117, 736, 388, 389, 390, 391, 392, 385, 393, 737, 647, 648, 649, 650, 651, 652, 653, 118, 119, 738, 739, 740, 741, 145, 146, 147, 148, 149, 796, 797, 798, 799, 936, 937, 938, 939, 940, 941, 958, 959, 960, 961, 953, 954] (by decide +kernel) (by decide +kernel)) (goodIn_sub (fun _ h => List.mem_append_right _ h) (by decide +kernel))
set_option maxRecDepth 20000 in
theorem gL_law_L_runPeriod : GoodIn wsL_law (va_wsS RL 261 yL_runPeriod wsL_runPeriod) := goodIn_app (goodIn_of _ (by decide +kernel)) ggL_law_L_runPeriod
set_option maxRecDepth 20000 in
theorem ggL_law_X9_runPeriod : GoodIn wsL_law wsX9_runPeriod := goodIn_r _ [803, 79, 770, 771, 772, 5, 773, 746, 747, 748, 749, 750, 124, 75, 77, 78, 406, 407, 408, 409, 635, 636, 637, 638, 353, 354, 355, 356, 125, 126, 127, 128, 129, 130, 131, 132, 942, 943, 944, 945, 946, 947, 948, 949, 950, 951, 952] (by decide +kernel) (by decide +kernel)
set_option maxRecDepth 20000 in
theorem gL_law_X9_runPeriod : GoodIn wsL_law (wsV RL 263 RX9 yX9_runPeriod wsX9_runPeriod) := goodIn_app (goodIn_of _ (by decide +kernel)) ggL_law_X9_runPeriod
set_option maxRecDepth 20000 in
theorem ggL_law_L_runsOver : GoodIn wsL_law wsL_runsOver := goodIn_ca (goodIn_r _ [806, 140, 807, 808, 809, 2, 810, 17, 29, 104, 105, 106, 16, 107, 43, 145, 146, 147, 148, 149, 726, 727, 728, 28, 729, 59, 730, 731, 732, 733, 734, 56, 57, 58, 735, 163, 164, 165, 42, 116, 117, 736, 388, 389, 390, 391, 392, 385, 393, 737, 647, 648, 649, 650, 651, 652, 653, 118, 119, 738, 739, 740, 741, 762, 763, 764, 765, 781, 782, 783, 784, 936, 937, 938, 939, 940, 941, 953, 954, 958, 959, 960, 961] (by decide +kernel) (by decide +kernel)) (goodIn_sub (fun _ h => List.mem_append_right _ h) (by decide +kernel))
set_option maxRecDepth 20000 in
theorem gL_law_L_runsOver : GoodIn wsL_law (va_wsS RL 264 yL_runsOver wsL_runsOver) := goodIn_app (goodIn_of _ (by decide +kernel)) ggL_law_L_runsOver
set_option maxRecDepth 20000 in
theorem ggL_law_X9_runsOver : GoodIn wsL_law wsX9_runsOver := goodIn_r _ [814, 746, 77, 78, 174, 175, 176, 5, 177, 124, 125, 126, 127, 128, 129, 130, 131, 132, 747, 748, 749, 750, 75, 79, 406, 407, 408, 409, 635, 636, 637, 638, 353, 354, 355, 356, 942, 943, 944, 945, 946, 947, 948, 949, 950, 951, 952] (by decide +kernel) (by decide +kernel)
set_option maxRecDepth 20000 in
theorem gL_law_X9_runsOver : GoodIn wsL_law (wsV RL 266 RX9 yX9_runsOver wsX9_runsOver) := goodIn_app (goodIn_of _ (by decide +kernel)) ggL_law_X9_runsOver
set_option maxRecDepth 20000 in
theorem ggL_law_X8_exponentsOfRuns : GoodIn wsL_law wsX8_exponentsOfRuns := goodIn_r _ [818, 29, 17, 726, 727, 728, 28, 729, 59, 730, 105, 106, 16, 107, 43, 731, 732, 733, 734, 56, 57, 58, 735, 163, 164, 165, 42, 116, 2, 117, 736, 388, 389, 390, 391, 392, 385, 393, 737, 647, 648, 649, 650, 651, 652, 653, 118, 119, 738, 739, 740, 741, 819, 820, 821, 822, 796, 797, 798, 799, 715, 716, 717, 936, 937, 938, 939, 940, 941, 958, 959, 960, 961, 953, 954] (by decide +kernel) (by decide +kernel)
set_option maxRecDepth 20000 in
theorem gL_law_X8_exponentsOfRuns : GoodIn wsL_law (wsV RL 267 RX8 yX8_exponentsOfRuns wsX8_exponentsOfRuns) := goodIn_app (goodIn_of _ (by decide +kernel)) ggL_law_X8_exponentsOfRuns
set_option maxRecDepth 20000 in
theorem ggL_law_X9_exponentsOfRuns : GoodIn wsL_law wsX9_exponentsOfRuns := goodIn_r _ [826, 132, 746, 78, 77, 79, 747, 748, 749, 5, 750, 124, 75, 406, 407, 408, 409, 635, 636, 637, 638, 353, 354, 355, 356, 942, 943, 944, 945, 946, 947, 948, 949, 950, 951, 952] (by decide +kernel) (by decide +kernel)
set_option maxRecDepth 20000 in
theorem gL_law_X9_exponentsOfRuns : GoodIn wsL_law (wsV RL 271 RX9 yX9_exponentsOfRuns wsX9_exponentsOfRuns) := goodIn_app (goodIn_of _ (by decide +kernel)) ggL_law_X9_exponentsOfRuns
set_option maxRecDepth 20000 in
theorem ggL_law_X8_squares : GoodIn wsL_law wsX8_squares := goodIn_r _ [830, 29, 17, 726, 727, 728, 28, 729, 59, 730, 105, 106, 16, 107, 43, 731, 732, 733, 734, 56, 57, 58, 735, 163, 164, 165, 42, 116, 2, 117, 736, 388, 389, 390, 391, 392, 385, 393, 737, 647, 648, 649, 650, 651, 652, 653, 118, 119, 738, 739, 740, 741, 819, 820, 821, 822, 796, 797, 798, 799, 936, 937, 938, 939, 940, 941, 958, 959, 960, 961, 953, 954] (by decide +kernel) (by decide +kernel)
set_option maxRecDepth 20000 in
theorem gL_law_X8_squares : GoodIn wsL_law (wsV RL 272 RX8 yX8_squares wsX8_squares) := goodIn_app (goodIn_of _ (by decide +kernel)) ggL_law_X8_squares
set_option maxRecDepth 20000 in
theorem ggL_law_X9_squares : GoodIn wsL_law wsX9_squares := goodIn_r _ [834, 132, 124, 406, 407, 408, 5, 409, 75, 349, 350, 351, 352, 353, 354, 355, 356, 942, 943, 944, 945, 946, 947, 948, 949, 950, 951, 952] (by decide +kernel) (by decide +kernel)
set_option maxRecDepth 20000 in
theorem gL_law_X9_squares : GoodIn wsL_law (wsV RL 275 RX9 yX9_squares wsX9_squares) := goodIn_app (goodIn_of _ (by decide +kernel)) ggL_law_X9_squares
set_option maxRecDepth 20000 in
theorem ggL_law_L_suffixAt : GoodIn wsL_law wsL_suffixAt := goodIn_ca (goodIn_r _ [837, 140, 838, 839, 840, 2, 841, 17, 33, 104, 105, 106, 16, 107, 43, 145, 146, 147, 148, 149, 842, 843, 844, 32, 845, 63, 846, 118, 119, 847, 848, 849, 850, 851, 852, 853, 854, 855, 163, 164, 165, 42, 116, 117, 856, 857, 858, 859, 936, 937, 938, 939, 940, 941, 953, 954, 962] (by decide +kernel) (by decide +kernel)) (goodIn_sub (fun _ h => List.mem_append_right _ h) (by decide +kernel))
set_option maxRecDepth 20000 in
theorem gL_law_L_suffixAt : GoodIn wsL_law (va_wsS RL 276 yL_suffixAt wsL_suffixAt) := goodIn_app (goodIn_of _ (by decide +kernel)) ggL_law_L_suffixAt
set_option maxRecDepth 20000 in
theorem ggL_law_X9_suffixAt : GoodIn wsL_law wsX9_suffixAt := goodIn_r _ [863, 174, 175, 176, 5, 177, 124, 125, 126, 127, 128, 129, 130, 131, 132, 864, 865, 866, 867, 402, 403, 404, 405, 75, 406, 407, 408, 409, 942, 943, 944, 945, 946, 947, 948, 949, 950, 951, 952] (by decide +kernel) (by decide +kernel)
set_option maxRecDepth 20000 in
theorem gL_law_X9_suffixAt : GoodIn wsL_law (wsV RL 278 RX9 yX9_suffixAt wsX9_suffixAt) := goodIn_app (goodIn_of _ (by decide +kernel)) ggL_law_X9_suffixAt
set_option maxRecDepth 20000 in
theorem ggL_law_L_rankOf : GoodIn wsL_law wsL_rankOf := goodIn_ca (goodIn_r _ [870, 140, 871, 872, 873, 2, 874, 17, 33, 104, 105, 106, 16, 107, 43, 145, 146, 147, 148, 149, 842, 843, 844, 32, 845, 63, 846, 118, 119, 847, 848, 849, 850, 851, 852, 853, 854, 855, 163, 164, 165, 42, 116, 117, 856, 857, 858, 859, 936, 937, 938, 939, 940, 941, 953, 954, 962] (by decide +kernel) (by decide +kernel)) (goodIn_sub (fun _ h => List.mem_append_right _ h) (by decide +kernel))
set_option maxRecDepth 20000 in
theorem gL_law_L_rankOf : GoodIn wsL_law (va_wsS RL 279 yL_rankOf wsL_rankOf) := goodIn_app (goodIn_of _ (by decide +kernel)) ggL_law_L_rankOf
set_option maxRecDepth 20000 in
theorem ggL_law_X9_rankOf : GoodIn wsL_law wsX9_rankOf := goodIn_r _ [878, 174, 175, 176, 5, 177, 124, 125, 126, 127, 128, 129, 130, 131, 132, 864, 865, 866, 867, 402, 403, 404, 405, 75, 406, 407, 408, 409, 942, 943, 944, 945, 946, 947, 948, 949, 950, 951, 952] (by decide +kernel) (by decide +kernel)
set_option maxRecDepth 20000 in
theorem gL_law_X9_rankOf : GoodIn wsL_law (wsV RL 281 RX9 yX9_rankOf wsX9_rankOf) := goodIn_app (goodIn_of _ (by decide +kernel)) ggL_law_X9_rankOf
set_option maxRecDepth 20000 in
theorem ggL_law_L_necklaces : GoodIn wsL_law wsL_necklaces := goodIn_ca (goodIn_r _ [881, 87, 882, 883, 884, 2, 885, 93, 94, 95, 96, 97, 327, 328, 261, 329, 330, 331, 332, 333, 334, 335, 336, 260, 262] (by decide +kernel) (by decide +kernel)) (goodIn_sub (fun _ h => List.mem_append_left _ (List.mem_append_left _ (List.mem_append_right _ h))) (by decide +kernel))
set_option maxRecDepth 20000 in
theorem gL_law_L_necklaces : GoodIn wsL_law (va_wsS RL 282 yL_necklaces wsL_necklaces) := goodIn_app (goodIn_of _ (by decide +kernel)) ggL_law_L_necklaces
set_option maxRecDepth 20000 in
theorem ggL_law_X9_necklaces : GoodIn wsL_law wsX9_necklaces := goodIn_r _ [889, 82, 125, 126, 5, 127, 128, 129, 130, 131, 132, 890, 891, 892, 893, 942, 943, 944, 945, 946, 947, 948, 949, 950, 951, 952] (by decide +kernel) (by decide +kernel)
set_option maxRecDepth 20000 in
theorem gL_law_X9_necklaces : GoodIn wsL_law (wsV RL 284 RX9 yX9_necklaces wsX9_necklaces) := goodIn_app (goodIn_of _ (by decide +kernel)) ggL_law_X9_necklaces
set_option maxRecDepth 20000 in
theorem ggL_law_L_lyndonWords : GoodIn wsL_law wsL_lyndonWords := goodIn_ca (goodIn_r _ [896, 87, 897, 898, 899, 2, 900, 93, 94, 95, 96, 97, 901, 331, 261, 332, 333, 334, 335, 336, 260, 262] (by decide +kernel) (by decide +kernel)) (goodIn_sub (fun _ h => List.mem_append_left _ (List.mem_append_left _ (List.mem_append_right _ h))) (by decide +kernel))
set_option maxRecDepth 20000 in
theorem gL_law_L_lyndonWords : GoodIn wsL_law (va_wsS RL 285 yL_lyndonWords wsL_lyndonWords) := goodIn_app (goodIn_of _ (by decide +kernel)) ggL_law_L_lyndonWords
set_option maxRecDepth 20000 in
theorem ggL_law_X9_lyndonWords : GoodIn wsL_law wsX9_lyndonWords := goodIn_r _ [905, 82, 125, 126, 5, 127, 128, 129, 130, 131, 132, 890, 891, 892, 893, 942, 943, 944, 945, 946, 947, 948, 949, 950, 951, 952] (by decide +kernel) (by decide +kernel)
set_option maxRecDepth 20000 in
theorem gL_law_X9_lyndonWords : GoodIn wsL_law (wsV RL 287 RX9 yX9_lyndonWords wsX9_lyndonWords) := goodIn_app (goodIn_of _ (by decide +kernel)) ggL_law_X9_lyndonWords
set_option maxRecDepth 20000 in
theorem ggL_law_L_necklaceNumber : GoodIn wsL_law wsL_necklaceNumber := goodIn_ca (goodIn_ca (goodIn_ca (goodIn_r _ [908, 140, 87, 88, 909, 910, 911, 2, 912, 102, 103, 17, 37, 239, 240, 241, 242, 148, 149, 104, 105, 106, 16, 107, 43, 93, 94, 95, 96, 97, 913, 914, 915, 916, 42, 391, 392, 385, 393, 116, 117, 263, 264, 265, 36, 266, 67, 68, 69, 70, 917, 918, 919, 920, 547, 548, 549, 550, 551, 552, 553, 554, 555, 556, 557, 163, 164, 165, 921, 922, 289, 290, 923, 924, 925, 926, 283, 927, 280, 281, 282, 284, 285, 286, 287, 288, 936, 937, 938, 939, 940, 941, 953, 954, 963, 964, 965, 966] (by decide +kernel) (by decide +kernel)) (goodIn_sub (fun _ h => List.mem_append_left _ (List.mem_append_right _ h)) (by decide +kernel))) (goodIn_sub (fun _ h => List.mem_append_right _ h) (by decide +kernel))) (goodIn_sub (fun _ h => List.mem_append_left _ (List.mem_append_left _ (List.mem_append_right _ h))) (by decide +kernel))
set_option maxRecDepth 20000 in
theorem gL_law_L_necklaceNumber : GoodIn wsL_law (va_wsS RL 288 yL_necklaceNumber wsL_necklaceNumber) := goodIn_app (goodIn_of _ (by decide +kernel)) ggL_law_L_necklaceNumber
set_option maxRecDepth 20000 in
theorem ggL_law_X9_necklaceNumber : GoodIn wsL_law wsX9_necklaceNumber := goodIn_r _ [931, 75, 247, 248, 249, 5, 250, 124, 125, 126, 127, 932, 933, 934, 935, 128, 129, 130, 131, 132, 562, 563, 564, 565, 566, 567, 568, 569, 305, 306, 307, 308, 80, 345, 346, 347, 348, 942, 943, 944, 945, 946, 947, 948, 949, 950, 951, 952] (by decide +kernel) (by decide +kernel)
set_option maxRecDepth 20000 in
theorem gL_law_X9_necklaceNumber : GoodIn wsL_law (wsV RL 290 RX9 yX9_necklaceNumber wsX9_necklaceNumber) := goodIn_app (goodIn_of _ (by decide +kernel)) ggL_law_X9_necklaceNumber
