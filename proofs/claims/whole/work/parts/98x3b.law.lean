set_option maxRecDepth 20000 in
theorem ggL_law_X6_ask : GoodIn wsL_law wsX6_ask := goodIn_r _ [468, 16, 178, 469, 470, 471, 2, 472, 179, 433, 131, 132, 133, 134, 104, 107, 108, 109, 195, 196, 197, 198, 148, 473, 474, 475, 15, 476, 44, 477, 478, 479, 480, 481, 116, 154, 482, 437, 438, 439, 39, 40, 212, 213, 205, 214, 483, 484, 485, 486, 487, 38, 207, 208, 488, 200, 201, 202, 35, 37, 203, 204, 206, 209, 210, 211, 489, 490, 491, 492, 386, 45, 387, 388, 389, 43, 390, 49, 391, 383, 384, 385, 50, 51, 55, 392, 56, 393, 394, 395, 54, 396, 397, 60, 398, 61, 62, 493, 494, 495, 496, 497, 498, 499, 500, 501, 502, 503, 504, 505, 506, 507, 508, 509, 510, 511, 920, 921, 922, 923, 924, 925, 943, 944, 945, 946, 947, 948, 949, 950, 951, 952, 953, 967, 968, 969, 970, 971, 972, 973, 974, 975, 976] (by decide +kernel) (by decide +kernel)
set_option maxRecDepth 20000 in
theorem gL_law_X6_ask : GoodIn wsL_law (wsV RL 57 RX6 yX6_ask wsX6_ask) := goodIn_app (goodIn_of _ (by decide +kernel)) ggL_law_X6_ask
set_option maxRecDepth 20000 in
theorem ggL_law_X7_ask : GoodIn wsL_law wsX7_ask := goodIn_r _ [515, 89, 516, 517, 518, 519, 520, 521, 522, 5, 523, 140, 141, 142, 143, 124, 125, 126, 219, 220, 221, 222, 186, 187, 188, 189, 524, 525, 526, 527, 123, 93, 528, 529, 530, 531, 532, 533, 534, 535, 223, 224, 225, 226, 536, 537, 538, 539, 448, 449, 450, 451, 540, 541, 542, 543, 227, 228, 229, 230, 231, 232, 233, 544, 545, 546, 547, 926, 927, 928, 929, 930, 931, 932, 933, 934, 935, 936, 937, 938, 939, 940, 941, 942] (by decide +kernel) (by decide +kernel)
set_option maxRecDepth 20000 in
theorem gL_law_X7_ask : GoodIn wsL_law (wsV RL 60 RX7 yX7_ask wsX7_ask) := goodIn_app (goodIn_of _ (by decide +kernel)) ggL_law_X7_ask
set_option maxRecDepth 20000 in
theorem ggL_law_X6_said : GoodIn wsL_law wsX6_said := goodIn_r _ [551, 16, 178, 107, 108, 2, 109, 469, 470, 471, 472, 179, 433, 131, 132, 133, 134, 104, 195, 196, 197, 198, 148, 473, 474, 475, 15, 476, 44, 477, 478, 479, 480, 481, 116, 154, 482, 437, 438, 439, 39, 40, 212, 213, 205, 214, 483, 484, 485, 486, 487, 38, 207, 208, 488, 200, 201, 202, 35, 37, 203, 204, 206, 209, 210, 211, 489, 490, 491, 492, 386, 45, 387, 388, 389, 43, 390, 49, 391, 383, 384, 385, 50, 51, 55, 392, 56, 393, 394, 395, 54, 396, 397, 60, 398, 61, 62, 500, 501, 502, 503, 504, 505, 506, 507, 508, 509, 510, 511, 920, 921, 922, 923, 924, 925, 943, 944, 945, 946, 947, 948, 949, 950, 951, 952, 953, 967, 968, 969, 970, 971, 972, 973, 974, 975, 976] (by decide +kernel) (by decide +kernel)
set_option maxRecDepth 20000 in
theorem gL_law_X6_said : GoodIn wsL_law (wsV RL 61 RX6 yX6_said wsX6_said) := goodIn_app (goodIn_of _ (by decide +kernel)) ggL_law_X6_said
set_option maxRecDepth 20000 in
theorem ggL_law_X7_said : GoodIn wsL_law wsX7_said := goodIn_r _ [555, 124, 125, 5, 126, 520, 521, 522, 523, 89, 140, 141, 142, 143, 219, 220, 221, 222, 186, 187, 188, 189, 524, 525, 526, 527, 123, 93, 528, 529, 530, 531, 532, 533, 534, 535, 223, 224, 225, 226, 536, 537, 538, 539, 519, 448, 449, 450, 451, 540, 541, 542, 543, 227, 228, 229, 230, 231, 232, 233, 544, 545, 546, 547, 926, 927, 928, 929, 930, 931, 932, 933, 934, 935, 936, 937, 938, 939, 940, 941, 942] (by decide +kernel) (by decide +kernel)
set_option maxRecDepth 20000 in
theorem gL_law_X7_said : GoodIn wsL_law (wsV RL 64 RX7 yX7_said wsX7_said) := goodIn_app (goodIn_of _ (by decide +kernel)) ggL_law_X7_said
set_option maxRecDepth 20000 in
theorem ggL_law_X6_teach : GoodIn wsL_law wsX6_teach := goodIn_r _ [559, 16, 178, 180, 179, 433, 131, 132, 133, 2, 134, 104, 107, 108, 109, 560, 207, 208, 489, 490, 491, 15, 492, 386, 45, 44, 387, 388, 389, 43, 390, 49, 391, 383, 384, 385, 50, 51, 55, 392, 56, 393, 394, 395, 54, 396, 397, 60, 398, 61, 62, 920, 921, 922, 923, 924, 925, 943, 944, 945, 946, 947, 948, 949, 950, 951, 952, 953, 967, 968, 969, 970, 971, 972, 973, 974, 975, 976] (by decide +kernel) (by decide +kernel)
set_option maxRecDepth 20000 in
theorem gL_law_X6_teach : GoodIn wsL_law (wsV RL 65 RX6 yX6_teach wsX6_teach) := goodIn_app (goodIn_of _ (by decide +kernel)) ggL_law_X6_teach
set_option maxRecDepth 20000 in
theorem ggL_law_X7_teach : GoodIn wsL_law wsX7_teach := goodIn_r _ [564, 139, 89, 140, 141, 142, 5, 143, 124, 125, 126, 186, 187, 188, 189, 524, 525, 526, 527, 123, 93, 926, 927, 928, 929, 930, 931, 932, 933, 934, 935, 936, 937, 938, 939, 940, 941, 942] (by decide +kernel) (by decide +kernel)
set_option maxRecDepth 20000 in
theorem gL_law_X7_teach : GoodIn wsL_law (wsV RL 68 RX7 yX7_teach wsX7_teach) := goodIn_app (goodIn_of _ (by decide +kernel)) ggL_law_X7_teach
set_option maxRecDepth 20000 in
theorem ggL_law_X6_rest : GoodIn wsL_law wsX6_rest := goodIn_r _ [568, 16, 178, 433, 489, 490, 491, 15, 492, 386, 45, 44, 387, 388, 389, 43, 390, 49, 391, 383, 384, 385, 50, 51, 55, 392, 56, 393, 394, 395, 54, 396, 397, 60, 398, 61, 62, 920, 921, 922, 923, 924, 925, 943, 944, 945, 946, 947, 948, 949, 950, 951, 952, 953, 967, 968, 969, 970, 971, 972, 973, 974, 975, 976] (by decide +kernel) (by decide +kernel)
set_option maxRecDepth 20000 in
theorem gL_law_X6_rest : GoodIn wsL_law (wsV RL 69 RX6 yX6_rest wsX6_rest) := goodIn_app (goodIn_of _ (by decide +kernel)) ggL_law_X6_rest
set_option maxRecDepth 20000 in
theorem ggL_law_X7_rest : GoodIn wsL_law wsX7_rest := goodIn_r _ [572, 89, 524, 525, 526, 5, 527, 123, 93, 926, 927, 928, 929, 930, 931, 932, 933, 934, 935, 936, 937, 938, 939, 940, 941, 942] (by decide +kernel) (by decide +kernel)
set_option maxRecDepth 20000 in
theorem gL_law_X7_rest : GoodIn wsL_law (wsV RL 72 RX7 yX7_rest wsX7_rest) := goodIn_app (goodIn_of _ (by decide +kernel)) ggL_law_X7_rest
set_option maxRecDepth 20000 in
theorem ggL_law_X6_undo : GoodIn wsL_law wsX6_undo := goodIn_r _ [576, 16, 106, 577, 578, 579, 15, 580, 386, 44, 45, 387, 388, 389, 43, 390, 49, 391, 383, 384, 385, 50, 51, 55, 392, 56, 393, 394, 395, 54, 396, 397, 60, 398, 61, 62, 920, 921, 922, 923, 924, 925, 943, 944, 945, 946, 947, 948, 949, 950, 951, 952, 953, 967, 968, 969, 970, 971, 972, 973, 974, 975, 976] (by decide +kernel) (by decide +kernel)
set_option maxRecDepth 20000 in
theorem gL_law_X6_undo : GoodIn wsL_law (wsV RL 73 RX6 yX6_undo wsX6_undo) := goodIn_app (goodIn_of _ (by decide +kernel)) ggL_law_X6_undo
set_option maxRecDepth 20000 in
theorem ggL_law_X7_undo : GoodIn wsL_law wsX7_undo := goodIn_r _ [584, 123, 89, 93, 926, 927, 928, 929, 930, 931, 932, 933, 934, 935, 936, 937, 938, 939, 940, 941, 942] (by decide +kernel) (by decide +kernel)
set_option maxRecDepth 20000 in
theorem gL_law_X7_undo : GoodIn wsL_law (wsV RL 76 RX7 yX7_undo wsX7_undo) := goodIn_app (goodIn_of _ (by decide +kernel)) ggL_law_X7_undo
set_option maxRecDepth 20000 in
theorem ggL_law_X6_seed : GoodIn wsL_law wsX6_seed := goodIn_r _ [588, 16, 178, 589, 920, 921, 922, 923, 924, 925, 943, 944, 945, 946, 947, 948, 949, 950, 951, 952, 953, 967, 968, 969, 970, 971, 972] (by decide +kernel) (by decide +kernel)
set_option maxRecDepth 20000 in
theorem gL_law_X6_seed : GoodIn wsL_law (wsV RL 77 RX6 yX6_seed wsX6_seed) := goodIn_app (goodIn_of _ (by decide +kernel)) ggL_law_X6_seed
set_option maxRecDepth 20000 in
theorem ggL_law_X7_seed : GoodIn wsL_law wsX7_seed := goodIn_r _ [593, 89, 926, 927, 928, 929, 930, 931, 932, 933, 934, 935, 936, 937, 938, 939, 940, 941, 942] (by decide +kernel) (by decide +kernel)
set_option maxRecDepth 20000 in
theorem gL_law_X7_seed : GoodIn wsL_law (wsV RL 80 RX7 yX7_seed wsX7_seed) := goodIn_app (goodIn_of _ (by decide +kernel)) ggL_law_X7_seed
set_option maxRecDepth 20000 in
theorem ggL_law_X6_pass : GoodIn wsL_law wsX6_pass := goodIn_r _ [597, 16, 131, 132, 133, 2, 134, 104, 107, 108, 109, 195, 196, 197, 198, 148, 473, 474, 475, 15, 476, 44, 477, 478, 479, 480, 481, 116, 154, 482, 437, 438, 439, 39, 40, 212, 213, 205, 214, 483, 484, 485, 486, 487, 38, 207, 208, 488, 200, 201, 202, 35, 37, 203, 204, 206, 209, 210, 211, 598, 920, 921, 922, 923, 924, 925, 943, 944, 945, 946, 947, 948, 949, 950, 951, 952, 953, 967, 968, 969, 970, 971, 972] (by decide +kernel) (by decide +kernel)
set_option maxRecDepth 20000 in
theorem gL_law_X6_pass : GoodIn wsL_law (wsV RL 81 RX6 yX6_pass wsX6_pass) := goodIn_app (goodIn_of _ (by decide +kernel)) ggL_law_X6_pass
set_option maxRecDepth 20000 in
theorem ggL_law_X7_pass : GoodIn wsL_law wsX7_pass := goodIn_r _ [602, 603, 89, 140, 141, 142, 5, 143, 124, 125, 126, 219, 220, 221, 222, 532, 533, 534, 535, 223, 224, 225, 226, 186, 187, 188, 189, 536, 537, 538, 539, 519, 448, 449, 450, 451, 540, 541, 542, 543, 227, 228, 229, 230, 231, 232, 233, 926, 927, 928, 929, 930, 931, 932, 933, 934, 935, 936, 937, 938, 939, 940, 941, 942] (by decide +kernel) (by decide +kernel)
set_option maxRecDepth 20000 in
theorem gL_law_X7_pass : GoodIn wsL_law (wsV RL 84 RX7 yX7_pass wsX7_pass) := goodIn_app (goodIn_of _ (by decide +kernel)) ggL_law_X7_pass
set_option maxRecDepth 20000 in
theorem ggL_law_X6_wrongs : GoodIn wsL_law wsX6_wrongs := goodIn_r _ [607, 21, 195, 196, 197, 2, 198, 16, 148, 107, 108, 109, 608, 609, 610, 20, 611, 72, 612, 613, 614, 615, 474, 475, 15, 476, 44, 477, 478, 479, 480, 481, 116, 154, 482, 437, 438, 439, 39, 40, 212, 213, 205, 214, 483, 484, 485, 486, 487, 38, 207, 208, 488, 200, 201, 202, 35, 37, 203, 204, 206, 209, 210, 211, 616, 617, 618, 619, 620, 621, 920, 921, 922, 923, 924, 925, 943, 944, 945, 946, 947, 948, 949, 950, 951, 952, 953, 954, 955, 956, 957, 958, 967, 968, 969, 970, 971, 972] (by decide +kernel) (by decide +kernel)
set_option maxRecDepth 20000 in
theorem gL_law_X6_wrongs : GoodIn wsL_law (wsV RL 85 RX6 yX6_wrongs wsX6_wrongs) := goodIn_app (goodIn_of _ (by decide +kernel)) ggL_law_X6_wrongs
set_option maxRecDepth 20000 in
theorem ggL_law_X7_wrongs : GoodIn wsL_law wsX7_wrongs := goodIn_r _ [625, 219, 220, 221, 5, 222, 89, 124, 125, 126, 626, 627, 628, 629, 186, 187, 188, 189, 528, 529, 530, 531, 532, 533, 534, 535, 223, 224, 225, 226, 536, 537, 538, 539, 519, 448, 449, 450, 451, 540, 541, 542, 543, 227, 228, 229, 230, 231, 232, 233, 630, 631, 632, 633, 926, 927, 928, 929, 930, 931, 932, 933, 934, 935, 936, 937, 938, 939, 940, 941, 942] (by decide +kernel) (by decide +kernel)
set_option maxRecDepth 20000 in
theorem gL_law_X7_wrongs : GoodIn wsL_law (wsV RL 88 RX7 yX7_wrongs wsX7_wrongs) := goodIn_app (goodIn_of _ (by decide +kernel)) ggL_law_X7_wrongs
set_option maxRecDepth 20000 in
theorem ggL_law_X6_parting : GoodIn wsL_law wsX6_parting := goodIn_r _ [637, 16, 148, 21, 107, 108, 2, 109, 638, 639, 640, 20, 641, 72, 642, 643, 609, 610, 611, 612, 613, 614, 615, 474, 475, 15, 476, 44, 477, 478, 479, 480, 481, 116, 154, 482, 437, 438, 439, 39, 40, 212, 213, 205, 214, 483, 484, 485, 486, 487, 38, 207, 208, 488, 200, 201, 202, 35, 37, 203, 204, 206, 209, 210, 211, 616, 617, 618, 619, 620, 621, 608, 920, 921, 922, 923, 924, 925, 943, 944, 945, 946, 947, 948, 949, 950, 951, 952, 953, 954, 955, 956, 957, 958, 967, 968, 969, 970, 971, 972] (by decide +kernel) (by decide +kernel)
set_option maxRecDepth 20000 in
theorem gL_law_X6_parting : GoodIn wsL_law (wsV RL 89 RX6 yX6_parting wsX6_parting) := goodIn_app (goodIn_of _ (by decide +kernel)) ggL_law_X6_parting
set_option maxRecDepth 20000 in
theorem ggL_law_X7_parting : GoodIn wsL_law wsX7_parting := goodIn_r _ [647, 89, 124, 125, 5, 126, 626, 627, 628, 629, 186, 187, 188, 189, 528, 529, 530, 531, 532, 533, 534, 535, 223, 224, 225, 226, 536, 537, 538, 539, 519, 448, 449, 450, 451, 540, 541, 542, 543, 227, 228, 229, 230, 231, 232, 233, 630, 631, 632, 633, 926, 927, 928, 929, 930, 931, 932, 933, 934, 935, 936, 937, 938, 939, 940, 941, 942] (by decide +kernel) (by decide +kernel)
set_option maxRecDepth 20000 in
theorem gL_law_X7_parting : GoodIn wsL_law (wsV RL 92 RX7 yX7_parting wsX7_parting) := goodIn_app (goodIn_of _ (by decide +kernel)) ggL_law_X7_parting
set_option maxRecDepth 20000 in
theorem ggL_law_X6_learn : GoodIn wsL_law wsX6_learn := goodIn_r _ [651, 21, 131, 132, 133, 2, 134, 16, 104, 107, 108, 109, 195, 196, 197, 198, 148, 652, 653, 654, 20, 655, 72, 656, 613, 657, 658, 659, 660, 661, 662, 663, 664, 437, 438, 15, 439, 39, 40, 212, 213, 205, 214, 665, 484, 485, 486, 487, 38, 207, 208, 488, 200, 201, 202, 35, 37, 203, 204, 206, 209, 210, 211, 666, 667, 668, 669, 670, 671, 672, 673, 920, 921, 922, 923, 924, 925, 943, 944, 945, 946, 947, 948, 949, 950, 951, 952, 953, 954, 955, 956, 957, 958, 967, 968, 969, 970, 971, 972] (by decide +kernel) (by decide +kernel)
set_option maxRecDepth 20000 in
theorem gL_law_X6_learn : GoodIn wsL_law (wsV RL 93 RX6 yX6_learn wsX6_learn) := goodIn_app (goodIn_of _ (by decide +kernel)) ggL_law_X6_learn
set_option maxRecDepth 20000 in
theorem ggL_law_X7_learn : GoodIn wsL_law wsX7_learn := goodIn_r _ [677, 678, 89, 140, 141, 142, 5, 143, 124, 125, 126, 219, 220, 221, 222, 186, 187, 188, 189, 540, 541, 542, 543, 679, 680, 681, 223, 224, 225, 226, 536, 537, 538, 539, 519, 448, 449, 450, 451, 227, 228, 229, 230, 231, 232, 233, 926, 927, 928, 929, 930, 931, 932, 933, 934, 935, 936, 937, 938, 939, 940, 941, 942] (by decide +kernel) (by decide +kernel)
set_option maxRecDepth 20000 in
theorem gL_law_X7_learn : GoodIn wsL_law (wsV RL 97 RX7 yX7_learn wsX7_learn) := goodIn_app (goodIn_of _ (by decide +kernel)) ggL_law_X7_learn
set_option maxRecDepth 20000 in
theorem ggL_law_X6_cross : GoodIn wsL_law wsX6_cross := goodIn_r _ [685, 21, 16, 131, 132, 133, 2, 134, 104, 107, 108, 109, 195, 196, 197, 198, 148, 686, 687, 688, 20, 689, 72, 613, 662, 690, 479, 480, 15, 481, 44, 116, 154, 482, 437, 438, 439, 39, 40, 212, 213, 205, 214, 483, 484, 485, 486, 487, 38, 207, 208, 488, 200, 201, 202, 35, 37, 203, 204, 206, 209, 210, 211, 598, 920, 921, 922, 923, 924, 925, 943, 944, 945, 946, 947, 948, 949, 950, 951, 952, 953, 954, 955, 956, 957, 958, 967, 968, 969, 970, 971, 972] (by decide +kernel) (by decide +kernel)
set_option maxRecDepth 20000 in
theorem gL_law_X6_cross : GoodIn wsL_law (wsV RL 98 RX6 yX6_cross wsX6_cross) := goodIn_app (goodIn_of _ (by decide +kernel)) ggL_law_X6_cross
set_option maxRecDepth 20000 in
theorem ggL_law_X7_cross : GoodIn wsL_law wsX7_cross := goodIn_r _ [694, 89, 140, 141, 142, 5, 143, 124, 125, 126, 219, 220, 221, 222, 532, 533, 534, 535, 223, 224, 225, 226, 186, 187, 188, 189, 536, 537, 538, 539, 519, 448, 449, 450, 451, 540, 541, 542, 543, 227, 228, 229, 230, 231, 232, 233, 926, 927, 928, 929, 930, 931, 932, 933, 934, 935, 936, 937, 938, 939, 940, 941, 942] (by decide +kernel) (by decide +kernel)
set_option maxRecDepth 20000 in
theorem gL_law_X7_cross : GoodIn wsL_law (wsV RL 101 RX7 yX7_cross wsX7_cross) := goodIn_app (goodIn_of _ (by decide +kernel)) ggL_law_X7_cross
