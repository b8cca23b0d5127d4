set_option maxRecDepth 20000 in
theorem ggL_law_X6_init : GoodIn wsL_law wsX6_init := goodIn_r _ [9, 10, 11, 12, 13, 14, 15, 16, 17, 18, 19, 20, 21, 22, 23, 24, 25, 26, 27, 28, 29, 30, 31, 32, 33, 34, 35, 36, 37, 38, 39, 40, 41, 42, 43, 44, 45, 46, 47, 48, 49, 50, 51, 52, 53, 54, 55, 56, 57, 58, 59, 60, 61, 62, 63, 64, 65, 66, 67, 68, 69, 70, 71, 72, 73, 74, 75, 76, 77, 78, 79, 80, 81, 82, 83, 84, 943, 944, 945, 946, 947, 948, 949, 950, 951, 952, 953, 920, 921, 922, 923, 924, 925, 954, 955, 956, 957, 958, 959, 960, 961, 962, 963, 964, 965, 966, 967, 968, 969, 970, 971, 972, 973, 974, 975, 976] (by decide +kernel) (by decide +kernel)
set_option maxRecDepth 20000 in
theorem gL_law_X6_init : GoodIn wsL_law (wsX6_init) := ggL_law_X6_init
set_option maxRecDepth 20000 in
theorem ggL_law_X7_init : GoodIn wsL_law wsX7_init := goodIn_r _ [87, 88, 11, 12, 34, 89, 90, 91, 92, 93, 94, 95, 96, 97, 70, 98, 99, 926, 927, 928, 929, 930, 931, 932, 933, 934, 935, 936, 937, 938, 939, 940, 941, 942] (by decide +kernel) (by decide +kernel)
set_option maxRecDepth 20000 in
theorem gL_law_X7_init : GoodIn wsL_law (wsX7_init) := ggL_law_X7_init
set_option maxRecDepth 20000 in
theorem ggL_law_X6_speaker : GoodIn wsL_law wsX6_speaker := goodIn_r _ [103, 16, 104, 105, 106, 107, 108, 2, 109, 110, 111, 112, 15, 113, 114, 35, 36, 44, 115, 116, 920, 921, 922, 923, 924, 925, 943, 944, 945, 946, 947, 948, 949, 950, 951, 952, 953, 967, 968, 969, 970, 971, 972] (by decide +kernel) (by decide +kernel)
set_option maxRecDepth 20000 in
theorem gL_law_X6_speaker : GoodIn wsL_law (wsV RL 13 RX6 yX6_speaker wsX6_speaker) := goodIn_app (goodIn_of _ (by decide +kernel)) ggL_law_X6_speaker
set_option maxRecDepth 20000 in
theorem ggL_law_X7_speaker : GoodIn wsL_law wsX7_speaker := goodIn_r _ [120, 121, 122, 89, 123, 124, 125, 5, 126, 926, 927, 928, 929, 930, 931, 932, 933, 934, 935, 936, 937, 938, 939, 940, 941, 942] (by decide +kernel) (by decide +kernel)
set_option maxRecDepth 20000 in
theorem gL_law_X7_speaker : GoodIn wsL_law (wsV RL 17 RX7 yX7_speaker wsX7_speaker) := goodIn_app (goodIn_of _ (by decide +kernel)) ggL_law_X7_speaker
set_option maxRecDepth 20000 in
theorem ggL_law_X6_can : GoodIn wsL_law wsX6_can := goodIn_r _ [130, 16, 105, 131, 132, 133, 2, 134, 104, 107, 108, 109, 920, 921, 922, 923, 924, 925, 943, 944, 945, 946, 947, 948, 949, 950, 951, 952, 953] (by decide +kernel) (by decide +kernel)
set_option maxRecDepth 20000 in
theorem gL_law_X6_can : GoodIn wsL_law (wsV RL 18 RX6 yX6_can wsX6_can) := goodIn_app (goodIn_of _ (by decide +kernel)) ggL_law_X6_can
set_option maxRecDepth 20000 in
theorem ggL_law_X7_can : GoodIn wsL_law wsX7_can := goodIn_r _ [138, 139, 122, 89, 140, 141, 142, 5, 143, 124, 125, 126, 926, 927, 928, 929, 930, 931, 932, 933, 934, 935, 936, 937, 938, 939, 940, 941, 942] (by decide +kernel) (by decide +kernel)
set_option maxRecDepth 20000 in
theorem gL_law_X7_can : GoodIn wsL_law (wsV RL 21 RX7 yX7_can wsX7_can) := goodIn_app (goodIn_of _ (by decide +kernel)) ggL_law_X7_can
set_option maxRecDepth 20000 in
theorem ggL_law_X6_word : GoodIn wsL_law wsX6_word := goodIn_r _ [147, 16, 148, 106, 107, 108, 2, 109, 149, 150, 151, 15, 152, 153, 38, 44, 154, 920, 921, 922, 923, 924, 925, 943, 944, 945, 946, 947, 948, 949, 950, 951, 952, 953, 967, 968, 969, 970, 971, 972] (by decide +kernel) (by decide +kernel)
set_option maxRecDepth 20000 in
theorem gL_law_X6_word : GoodIn wsL_law (wsV RL 22 RX6 yX6_word wsX6_word) := goodIn_app (goodIn_of _ (by decide +kernel)) ggL_law_X6_word
set_option maxRecDepth 20000 in
theorem ggL_law_X7_word : GoodIn wsL_law wsX7_word := goodIn_r _ [158, 159, 89, 123, 124, 125, 5, 126, 926, 927, 928, 929, 930, 931, 932, 933, 934, 935, 936, 937, 938, 939, 940, 941, 942] (by decide +kernel) (by decide +kernel)
set_option maxRecDepth 20000 in
theorem gL_law_X7_word : GoodIn wsL_law (wsV RL 26 RX7 yX7_word wsX7_word) := goodIn_app (goodIn_of _ (by decide +kernel)) ggL_law_X7_word
set_option maxRecDepth 20000 in
theorem ggL_law_X6_guard : GoodIn wsL_law wsX6_guard := goodIn_r _ [163, 16, 164, 165, 107, 108, 2, 109, 920, 921, 922, 923, 924, 925, 943, 944, 945, 946, 947, 948, 949, 950, 951, 952, 953] (by decide +kernel) (by decide +kernel)
set_option maxRecDepth 20000 in
theorem gL_law_X6_guard : GoodIn wsL_law (wsV RL 27 RX6 yX6_guard wsX6_guard) := goodIn_app (goodIn_of _ (by decide +kernel)) ggL_law_X6_guard
set_option maxRecDepth 20000 in
theorem ggL_law_X7_guard : GoodIn wsL_law wsX7_guard := goodIn_r _ [169, 170, 171, 89, 124, 125, 5, 126, 926, 927, 928, 929, 930, 931, 932, 933, 934, 935, 936, 937, 938, 939, 940, 941, 942] (by decide +kernel) (by decide +kernel)
set_option maxRecDepth 20000 in
theorem gL_law_X7_guard : GoodIn wsL_law (wsV RL 31 RX7 yX7_guard wsX7_guard) := goodIn_app (goodIn_of _ (by decide +kernel)) ggL_law_X7_guard
set_option maxRecDepth 20000 in
theorem ggL_law_X6_of : GoodIn wsL_law wsX6_of := goodIn_r _ [175, 16, 176, 177, 178, 179, 180, 131, 132, 133, 2, 134, 104, 107, 108, 109, 920, 921, 922, 923, 924, 925, 943, 944, 945, 946, 947, 948, 949, 950, 951, 952, 953, 967, 968, 969, 970, 971, 972] (by decide +kernel) (by decide +kernel)
set_option maxRecDepth 20000 in
theorem gL_law_X6_of : GoodIn wsL_law (wsV RL 32 RX6 yX6_of wsX6_of) := goodIn_app (goodIn_of _ (by decide +kernel)) ggL_law_X6_of
set_option maxRecDepth 20000 in
theorem ggL_law_X7_of : GoodIn wsL_law wsX7_of := goodIn_r _ [184, 185, 140, 141, 142, 5, 143, 89, 124, 125, 126, 186, 187, 188, 189, 926, 927, 928, 929, 930, 931, 932, 933, 934, 935, 936, 937, 938, 939, 940, 941, 942] (by decide +kernel) (by decide +kernel)
set_option maxRecDepth 20000 in
theorem gL_law_X7_of : GoodIn wsL_law (wsV RL 35 RX7 yX7_of wsX7_of) := goodIn_app (goodIn_of _ (by decide +kernel)) ggL_law_X7_of
set_option maxRecDepth 20000 in
theorem ggL_law_X6_skill : GoodIn wsL_law wsX6_skill := goodIn_r _ [193, 16, 178, 180, 194, 131, 132, 133, 2, 134, 104, 107, 108, 109, 195, 196, 197, 198, 148, 199, 200, 201, 15, 202, 35, 37, 203, 204, 205, 206, 207, 208, 209, 210, 211, 212, 213, 214, 920, 921, 922, 923, 924, 925, 943, 944, 945, 946, 947, 948, 949, 950, 951, 952, 953, 967, 968, 969, 970, 971, 972] (by decide +kernel) (by decide +kernel)
set_option maxRecDepth 20000 in
theorem gL_law_X6_skill : GoodIn wsL_law (wsV RL 36 RX6 yX6_skill wsX6_skill) := goodIn_app (goodIn_of _ (by decide +kernel)) ggL_law_X6_skill
set_option maxRecDepth 20000 in
theorem ggL_law_X7_skill : GoodIn wsL_law wsX7_skill := goodIn_r _ [218, 139, 140, 141, 142, 5, 143, 89, 124, 125, 126, 219, 220, 221, 222, 223, 224, 225, 226, 186, 187, 188, 189, 227, 228, 229, 230, 231, 232, 233, 926, 927, 928, 929, 930, 931, 932, 933, 934, 935, 936, 937, 938, 939, 940, 941, 942] (by decide +kernel) (by decide +kernel)
set_option maxRecDepth 20000 in
theorem gL_law_X7_skill : GoodIn wsL_law (wsV RL 39 RX7 yX7_skill wsX7_skill) := goodIn_app (goodIn_of _ (by decide +kernel)) ggL_law_X7_skill
set_option maxRecDepth 20000 in
theorem ggL_law_X6_type : GoodIn wsL_law wsX6_type := goodIn_r _ [237, 25, 238, 239, 107, 108, 2, 109, 920, 921, 922, 923, 924, 925, 959, 960, 961, 962] (by decide +kernel) (by decide +kernel)
set_option maxRecDepth 20000 in
theorem gL_law_X6_type : GoodIn wsL_law (wsV RL 40 RX6 yX6_type wsX6_type) := goodIn_app (goodIn_of _ (by decide +kernel)) ggL_law_X6_type
set_option maxRecDepth 20000 in
theorem ggL_law_X7_type : GoodIn wsL_law wsX7_type := goodIn_r _ [243, 244, 245, 246, 90, 124, 125, 5, 126, 926, 927, 928, 929, 930, 931, 932, 933, 934, 935, 936, 937, 938, 939, 940, 941, 942] (by decide +kernel) (by decide +kernel)
set_option maxRecDepth 20000 in
theorem gL_law_X7_type : GoodIn wsL_law (wsV RL 43 RX7 yX7_type wsX7_type) := goodIn_app (goodIn_of _ (by decide +kernel)) ggL_law_X7_type
set_option maxRecDepth 20000 in
theorem ggL_law_X6_tongues : GoodIn wsL_law wsX6_tongues := goodIn_r _ [250, 25, 238, 251, 16, 252, 104, 253, 254, 255, 24, 256, 257, 79, 258, 259, 260, 261, 262, 263, 264, 265, 266, 267, 268, 269, 77, 270, 271, 272, 273, 274, 275, 276, 277, 278, 279, 280, 281, 282, 283, 284, 285, 286, 287, 288, 289, 290, 291, 292, 293, 294, 295, 296, 297, 298, 213, 205, 214, 299, 204, 206, 300, 301, 302, 303, 304, 305, 306, 307, 308, 309, 310, 311, 312, 313, 314, 315, 316, 317, 318, 319, 320, 321, 322, 323, 324, 325, 326, 327, 328, 329, 330, 331, 332, 333, 334, 335, 336, 337, 338, 339, 340, 341, 342, 343, 344, 345, 346, 347, 348, 349, 350, 351, 352, 353, 354, 355, 356, 357, 358, 359, 360, 361, 362, 363, 111, 112, 15, 113, 114, 35, 36, 44, 115, 116, 364, 365, 366, 367, 368, 369, 370, 371, 372, 150, 151, 152, 153, 38, 154, 373, 374, 375, 376, 40, 377, 378, 379, 380, 381, 382, 383, 384, 385, 37, 39, 386, 45, 387, 388, 389, 43, 390, 49, 391, 50, 51, 55, 392, 56, 393, 394, 395, 54, 396, 397, 60, 398, 61, 62, 920, 921, 922, 923, 924, 925, 959, 960, 961, 962, 943, 944, 945, 946, 947, 948, 949, 950, 951, 952, 953, 967, 968, 969, 970, 971, 972, 973, 974, 975, 976] (by decide +kernel) (by decide +kernel)
set_option maxRecDepth 20000 in
theorem gL_law_X6_tongues : GoodIn wsL_law (wsV RL 44 RX6 yX6_tongues wsX6_tongues) := goodIn_app (goodIn_of _ (by decide +kernel)) ggL_law_X6_tongues
set_option maxRecDepth 20000 in
theorem ggL_law_X7_tongues : GoodIn wsL_law wsX7_tongues := goodIn_r _ [402, 403, 404, 246, 89, 91, 92, 123, 405, 406, 407, 5, 408, 409, 410, 411, 412, 90, 124, 125, 126, 413, 414, 415, 416, 417, 418, 419, 420, 421, 422, 423, 424, 425, 426, 427, 118, 119, 120, 121, 122, 428, 156, 157, 158, 159, 926, 927, 928, 929, 930, 931, 932, 933, 934, 935, 936, 937, 938, 939, 940, 941, 942] (by decide +kernel) (by decide +kernel)
set_option maxRecDepth 20000 in
theorem gL_law_X7_tongues : GoodIn wsL_law (wsV RL 48 RX7 yX7_tongues wsX7_tongues) := goodIn_app (goodIn_of _ (by decide +kernel)) ggL_law_X7_tongues
set_option maxRecDepth 20000 in
theorem ggL_law_X6_count : GoodIn wsL_law wsX6_count := goodIn_r _ [432, 16, 104, 148, 164, 165, 178, 433, 434, 435, 106, 436, 437, 438, 15, 439, 39, 40, 212, 213, 205, 214, 440, 441, 442, 443, 114, 44, 115, 920, 921, 922, 923, 924, 925, 943, 944, 945, 946, 947, 948, 949, 950, 951, 952, 953, 967, 968, 969, 970, 971, 972, 973, 974, 975, 976] (by decide +kernel) (by decide +kernel)
set_option maxRecDepth 20000 in
theorem gL_law_X6_count : GoodIn wsL_law (wsV RL 49 RX6 yX6_count wsX6_count) := goodIn_app (goodIn_of _ (by decide +kernel)) ggL_law_X6_count
set_option maxRecDepth 20000 in
theorem ggL_law_X7_count : GoodIn wsL_law wsX7_count := goodIn_r _ [447, 89, 123, 448, 449, 450, 5, 451, 452, 453, 454, 455, 186, 187, 188, 189, 926, 927, 928, 929, 930, 931, 932, 933, 934, 935, 936, 937, 938, 939, 940, 941, 942] (by decide +kernel) (by decide +kernel)
set_option maxRecDepth 20000 in
theorem gL_law_X7_count : GoodIn wsL_law (wsV RL 52 RX7 yX7_count wsX7_count) := goodIn_app (goodIn_of _ (by decide +kernel)) ggL_law_X7_count
set_option maxRecDepth 20000 in
theorem ggL_law_X6_worn : GoodIn wsL_law wsX6_worn := goodIn_r _ [459, 16, 460, 178, 194, 195, 196, 197, 2, 198, 148, 107, 108, 109, 920, 921, 922, 923, 924, 925, 943, 944, 945, 946, 947, 948, 949, 950, 951, 952, 953, 967, 968, 969, 970, 971, 972] (by decide +kernel) (by decide +kernel)
set_option maxRecDepth 20000 in
theorem gL_law_X6_worn : GoodIn wsL_law (wsV RL 53 RX6 yX6_worn wsX6_worn) := goodIn_app (goodIn_of _ (by decide +kernel)) ggL_law_X6_worn
set_option maxRecDepth 20000 in
theorem ggL_law_X7_worn : GoodIn wsL_law wsX7_worn := goodIn_r _ [464, 89, 219, 220, 221, 5, 222, 124, 125, 126, 926, 927, 928, 929, 930, 931, 932, 933, 934, 935, 936, 937, 938, 939, 940, 941, 942] (by decide +kernel) (by decide +kernel)
set_option maxRecDepth 20000 in
theorem gL_law_X7_worn : GoodIn wsL_law (wsV RL 56 RX7 yX7_worn wsX7_worn) := goodIn_app (goodIn_of _ (by decide +kernel)) ggL_law_X7_worn
