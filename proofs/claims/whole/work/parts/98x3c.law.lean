set_option maxRecDepth 20000 in
theorem ggL_law_X6_line : GoodIn wsL_law wsX6_line := goodIn_r _ [698, 16, 21, 699, 195, 196, 197, 2, 198, 148, 107, 108, 109, 440, 441, 442, 15, 443, 114, 44, 115, 700, 667, 668, 669, 670, 671, 672, 701, 702, 703, 20, 704, 68, 666, 705, 706, 707, 708, 72, 613, 662, 663, 612, 657, 67, 664, 437, 438, 439, 39, 40, 212, 213, 205, 214, 665, 484, 485, 486, 487, 38, 207, 208, 488, 200, 201, 202, 35, 37, 203, 204, 206, 209, 210, 211, 616, 617, 618, 619, 620, 621, 709, 710, 711, 712, 713, 714, 715, 716, 717, 718, 719, 720, 721, 722, 723, 724, 725, 726, 920, 921, 922, 923, 924, 925, 954, 955, 956, 957, 958, 943, 944, 945, 946, 947, 948, 949, 950, 951, 952, 953, 967, 968, 969, 970, 971, 972] (by decide +kernel) (by decide +kernel)
set_option maxRecDepth 20000 in
theorem gL_law_X6_line : GoodIn wsL_law (wsV RL 102 RX6 yX6_line wsX6_line) := goodIn_app (goodIn_of _ (by decide +kernel)) ggL_law_X6_line
set_option maxRecDepth 20000 in
theorem ggL_law_X7_line : GoodIn wsL_law wsX7_line := goodIn_r _ [730, 89, 94, 219, 220, 221, 5, 222, 124, 125, 126, 452, 453, 454, 455, 186, 187, 188, 189, 679, 680, 681, 223, 224, 225, 226, 536, 537, 538, 539, 519, 448, 449, 450, 451, 540, 541, 542, 543, 227, 228, 229, 230, 231, 232, 233, 630, 631, 632, 633, 926, 927, 928, 929, 930, 931, 932, 933, 934, 935, 936, 937, 938, 939, 940, 941, 942] (by decide +kernel) (by decide +kernel)
set_option maxRecDepth 20000 in
theorem gL_law_X7_line : GoodIn wsL_law (wsV RL 105 RX7 yX7_line wsX7_line) := goodIn_app (goodIn_of _ (by decide +kernel)) ggL_law_X7_line
set_option maxRecDepth 20000 in
theorem ggL_law_X6_proof : GoodIn wsL_law wsX6_proof := goodIn_r _ [734, 735, 21, 107, 108, 2, 109, 736, 737, 738, 20, 739, 72, 642, 740, 741, 742, 743, 612, 69, 615, 474, 475, 15, 476, 44, 477, 478, 479, 480, 481, 116, 154, 482, 437, 438, 439, 39, 40, 212, 213, 205, 214, 483, 484, 485, 486, 487, 38, 207, 208, 488, 200, 201, 202, 35, 37, 203, 204, 206, 209, 210, 211, 666, 667, 668, 669, 670, 671, 672, 744, 745, 746, 747, 620, 621, 748, 749, 750, 751, 752, 920, 921, 922, 923, 924, 925, 954, 955, 956, 957, 958, 943, 944, 945, 946, 947, 948, 949, 950, 951, 952, 953, 967, 968, 969, 970, 971, 972] (by decide +kernel) (by decide +kernel)
set_option maxRecDepth 20000 in
theorem gL_law_X6_proof : GoodIn wsL_law (wsV RL 106 RX6 yX6_proof wsX6_proof) := goodIn_app (goodIn_of _ (by decide +kernel)) ggL_law_X6_proof
set_option maxRecDepth 20000 in
theorem ggL_law_X7_proof : GoodIn wsL_law wsX7_proof := goodIn_r _ [756, 757, 89, 519, 124, 125, 5, 126, 679, 680, 681, 758, 759, 760, 761, 528, 529, 530, 531, 532, 533, 534, 535, 223, 224, 225, 226, 186, 187, 188, 189, 536, 537, 538, 539, 448, 449, 450, 451, 540, 541, 542, 543, 227, 228, 229, 230, 231, 232, 233, 926, 927, 928, 929, 930, 931, 932, 933, 934, 935, 936, 937, 938, 939, 940, 941, 942] (by decide +kernel) (by decide +kernel)
set_option maxRecDepth 20000 in
theorem gL_law_X7_proof : GoodIn wsL_law (wsV RL 109 RX7 yX7_proof wsX7_proof) := goodIn_app (goodIn_of _ (by decide +kernel)) ggL_law_X7_proof
set_option maxRecDepth 20000 in
theorem ggL_law_X6_heardWrong : GoodIn wsL_law wsX6_heardWrong := goodIn_r _ [765, 21, 107, 108, 2, 109, 766, 767, 768, 20, 769, 72, 613, 770, 771, 772, 773, 774, 775, 620, 776, 777, 778, 779, 780, 781, 782, 783, 621, 920, 921, 922, 923, 924, 925, 954, 955, 956, 957, 958, 943, 944, 945, 946, 947, 948, 949, 950, 951, 952, 953, 967, 968, 969, 970, 971, 972, 973, 974, 975, 976] (by decide +kernel) (by decide +kernel)
set_option maxRecDepth 20000 in
theorem gL_law_X6_heardWrong : GoodIn wsL_law (wsV RL 110 RX6 yX6_heardWrong wsX6_heardWrong) := goodIn_app (goodIn_of _ (by decide +kernel)) ggL_law_X6_heardWrong
set_option maxRecDepth 20000 in
theorem ggL_law_X7_heardWrong : GoodIn wsL_law wsX7_heardWrong := goodIn_r _ [787, 788, 89, 519, 124, 125, 5, 126, 186, 187, 188, 189, 926, 927, 928, 929, 930, 931, 932, 933, 934, 935, 936, 937, 938, 939, 940, 941, 942] (by decide +kernel) (by decide +kernel)
set_option maxRecDepth 20000 in
theorem gL_law_X7_heardWrong : GoodIn wsL_law (wsV RL 113 RX7 yX7_heardWrong wsX7_heardWrong) := goodIn_app (goodIn_of _ (by decide +kernel)) ggL_law_X7_heardWrong
set_option maxRecDepth 20000 in
theorem ggL_law_X6_image : GoodIn wsL_law wsX6_image := goodIn_r _ [792, 17, 16, 793, 794, 379, 380, 15, 381, 114, 35, 382, 383, 384, 385, 36, 37, 153, 38, 39, 40, 44, 386, 45, 387, 388, 389, 43, 390, 49, 391, 50, 51, 55, 392, 56, 393, 394, 395, 54, 396, 397, 60, 398, 61, 62, 920, 921, 922, 923, 924, 925, 943, 944, 945, 946, 947, 948, 949, 950, 951, 952, 953, 967, 968, 969, 970, 971, 972, 973, 974, 975, 976] (by decide +kernel) (by decide +kernel)
set_option maxRecDepth 20000 in
theorem gL_law_X6_image : GoodIn wsL_law (wsV RL 114 RX6 yX6_image wsX6_image) := goodIn_app (goodIn_of _ (by decide +kernel)) ggL_law_X6_image
set_option maxRecDepth 20000 in
theorem ggL_law_X7_image : GoodIn wsL_law wsX7_image := goodIn_r _ [798, 95, 89, 93, 123, 799, 800, 926, 927, 928, 929, 930, 931, 932, 933, 934, 935, 936, 937, 938, 939, 940, 941, 942] (by decide +kernel) (by decide +kernel)
set_option maxRecDepth 20000 in
theorem gL_law_X7_image : GoodIn wsL_law (wsV RL 117 RX7 yX7_image wsX7_image) := goodIn_app (goodIn_of _ (by decide +kernel)) ggL_law_X7_image
set_option maxRecDepth 20000 in
theorem ggL_law_X6_restore : GoodIn wsL_law wsX6_restore := goodIn_r _ [804, 793, 16, 17, 794, 379, 380, 15, 381, 114, 35, 382, 383, 384, 385, 36, 37, 153, 38, 39, 40, 44, 386, 45, 387, 388, 389, 43, 390, 49, 391, 50, 51, 55, 392, 56, 393, 394, 395, 54, 396, 397, 60, 398, 61, 62, 920, 921, 922, 923, 924, 925, 943, 944, 945, 946, 947, 948, 949, 950, 951, 952, 953, 967, 968, 969, 970, 971, 972, 973, 974, 975, 976] (by decide +kernel) (by decide +kernel)
set_option maxRecDepth 20000 in
theorem gL_law_X6_restore : GoodIn wsL_law (wsV RL 118 RX6 yX6_restore wsX6_restore) := goodIn_app (goodIn_of _ (by decide +kernel)) ggL_law_X6_restore
set_option maxRecDepth 20000 in
theorem ggL_law_X7_restore : GoodIn wsL_law wsX7_restore := goodIn_r _ [808, 800, 89, 95, 93, 799, 123, 926, 927, 928, 929, 930, 931, 932, 933, 934, 935, 936, 937, 938, 939, 940, 941, 942] (by decide +kernel) (by decide +kernel)
set_option maxRecDepth 20000 in
theorem gL_law_X7_restore : GoodIn wsL_law (wsV RL 121 RX7 yX7_restore wsX7_restore) := goodIn_app (goodIn_of _ (by decide +kernel)) ggL_law_X7_restore
set_option maxRecDepth 20000 in
theorem ggL_law_X6_who : GoodIn wsL_law wsX6_who := goodIn_r _ [812, 27, 21, 813, 814, 2, 815, 107, 108, 109, 131, 132, 133, 134, 16, 104, 816, 817, 818, 29, 819, 820, 821, 822, 823, 824, 825, 826, 827, 828, 829, 830, 831, 148, 832, 833, 834, 20, 835, 72, 612, 71, 752, 836, 621, 615, 474, 475, 15, 476, 44, 477, 478, 479, 480, 481, 116, 154, 482, 437, 438, 439, 39, 40, 212, 213, 205, 214, 483, 484, 485, 486, 487, 38, 207, 208, 488, 200, 201, 202, 35, 37, 203, 204, 206, 209, 210, 211, 837, 838, 839, 840, 841, 842, 843, 844, 920, 921, 922, 923, 924, 925, 943, 944, 945, 946, 947, 948, 949, 950, 951, 952, 953, 963, 964, 965, 966, 954, 955, 956, 957, 958, 967, 968, 969, 970, 971, 972] (by decide +kernel) (by decide +kernel)
set_option maxRecDepth 20000 in
theorem gL_law_X6_who : GoodIn wsL_law (wsV RL 122 RX6 yX6_who wsX6_who) := goodIn_app (goodIn_of _ (by decide +kernel)) ggL_law_X6_who
set_option maxRecDepth 20000 in
theorem ggL_law_X7_who : GoodIn wsL_law wsX7_who := goodIn_r _ [848, 849, 98, 89, 757, 850, 851, 5, 852, 185, 124, 125, 126, 853, 854, 855, 140, 141, 142, 143, 856, 857, 858, 859, 96, 97, 860, 861, 862, 863, 519, 528, 529, 530, 531, 532, 533, 534, 535, 223, 224, 225, 226, 186, 187, 188, 189, 536, 537, 538, 539, 448, 449, 450, 451, 540, 541, 542, 543, 227, 228, 229, 230, 231, 232, 233, 926, 927, 928, 929, 930, 931, 932, 933, 934, 935, 936, 937, 938, 939, 940, 941, 942] (by decide +kernel) (by decide +kernel)
set_option maxRecDepth 20000 in
theorem gL_law_X7_who : GoodIn wsL_law (wsV RL 126 RX7 yX7_who wsX7_who) := goodIn_app (goodIn_of _ (by decide +kernel)) ggL_law_X7_who
set_option maxRecDepth 20000 in
theorem ggL_law_X6_film : GoodIn wsL_law wsX6_film := goodIn_r _ [867, 27, 16, 178, 433, 131, 132, 133, 2, 134, 104, 107, 108, 109, 195, 196, 197, 198, 148, 813, 814, 815, 816, 817, 818, 29, 819, 820, 821, 822, 823, 824, 825, 826, 598, 479, 480, 15, 481, 44, 116, 154, 482, 437, 438, 439, 39, 40, 212, 213, 205, 214, 483, 484, 485, 486, 487, 38, 207, 208, 488, 200, 201, 202, 35, 37, 203, 204, 206, 209, 210, 211, 868, 869, 870, 871, 84, 920, 921, 922, 923, 924, 925, 943, 944, 945, 946, 947, 948, 949, 950, 951, 952, 953, 967, 968, 969, 970, 971, 972, 963, 964, 965, 966] (by decide +kernel) (by decide +kernel)
set_option maxRecDepth 20000 in
theorem gL_law_X6_film : GoodIn wsL_law (wsV RL 127 RX6 yX6_film wsX6_film) := goodIn_app (goodIn_of _ (by decide +kernel)) ggL_law_X6_film
set_option maxRecDepth 20000 in
theorem ggL_law_X7_film : GoodIn wsL_law wsX7_film := goodIn_r _ [875, 171, 98, 89, 140, 141, 142, 5, 143, 124, 125, 126, 219, 220, 221, 222, 850, 851, 852, 185, 853, 854, 855, 856, 857, 858, 859, 96, 97, 532, 533, 534, 535, 223, 224, 225, 226, 186, 187, 188, 189, 536, 537, 538, 539, 519, 448, 449, 450, 451, 540, 541, 542, 543, 227, 228, 229, 230, 231, 232, 233, 876, 877, 878, 926, 927, 928, 929, 930, 931, 932, 933, 934, 935, 936, 937, 938, 939, 940, 941, 942] (by decide +kernel) (by decide +kernel)
set_option maxRecDepth 20000 in
theorem gL_law_X7_film : GoodIn wsL_law (wsV RL 131 RX7 yX7_film wsX7_film) := goodIn_app (goodIn_of _ (by decide +kernel)) ggL_law_X7_film
set_option maxRecDepth 20000 in
theorem ggL_law_X6_sheet : GoodIn wsL_law wsX6_sheet := goodIn_r _ [882, 27, 813, 814, 2, 815, 107, 108, 109, 883, 884, 885, 29, 886, 820, 821, 826, 84, 920, 921, 922, 923, 924, 925, 963, 964, 965, 966] (by decide +kernel) (by decide +kernel)
set_option maxRecDepth 20000 in
theorem gL_law_X6_sheet : GoodIn wsL_law (wsV RL 132 RX6 yX6_sheet wsX6_sheet) := goodIn_app (goodIn_of _ (by decide +kernel)) ggL_law_X6_sheet
set_option maxRecDepth 20000 in
theorem ggL_law_X7_sheet : GoodIn wsL_law wsX7_sheet := goodIn_r _ [890, 96, 97, 98, 850, 851, 5, 852, 185, 124, 125, 126, 853, 854, 855, 926, 927, 928, 929, 930, 931, 932, 933, 934, 935, 936, 937, 938, 939, 940, 941, 942] (by decide +kernel) (by decide +kernel)
set_option maxRecDepth 20000 in
theorem gL_law_X7_sheet : GoodIn wsL_law (wsV RL 135 RX7 yX7_sheet wsX7_sheet) := goodIn_app (goodIn_of _ (by decide +kernel)) ggL_law_X7_sheet
set_option maxRecDepth 20000 in
theorem ggL_law_X6_drop : GoodIn wsL_law wsX6_drop := goodIn_r _ [894, 27, 895, 896, 813, 814, 2, 815, 107, 108, 109, 920, 921, 922, 923, 924, 925, 963, 964, 965, 966] (by decide +kernel) (by decide +kernel)
set_option maxRecDepth 20000 in
theorem gL_law_X6_drop : GoodIn wsL_law (wsV RL 136 RX6 yX6_drop wsX6_drop) := goodIn_app (goodIn_of _ (by decide +kernel)) ggL_law_X6_drop
set_option maxRecDepth 20000 in
theorem ggL_law_X7_drop : GoodIn wsL_law wsX7_drop := goodIn_r _ [900, 96, 97, 850, 851, 5, 852, 185, 124, 125, 126, 926, 927, 928, 929, 930, 931, 932, 933, 934, 935, 936, 937, 938, 939, 940, 941, 942] (by decide +kernel) (by decide +kernel)
set_option maxRecDepth 20000 in
theorem gL_law_X7_drop : GoodIn wsL_law (wsV RL 139 RX7 yX7_drop wsX7_drop) := goodIn_app (goodIn_of _ (by decide +kernel)) ggL_law_X7_drop
set_option maxRecDepth 20000 in
theorem ggL_law_X6_item : GoodIn wsL_law wsX6_item := goodIn_r _ [904, 27, 813, 814, 2, 815, 107, 108, 109, 816, 817, 818, 29, 819, 820, 821, 822, 823, 824, 825, 826, 868, 869, 870, 871, 84, 920, 921, 922, 923, 924, 925, 963, 964, 965, 966] (by decide +kernel) (by decide +kernel)
set_option maxRecDepth 20000 in
theorem gL_law_X6_item : GoodIn wsL_law (wsV RL 142 RX6 yX6_item wsX6_item) := goodIn_app (goodIn_of _ (by decide +kernel)) ggL_law_X6_item
set_option maxRecDepth 20000 in
theorem ggL_law_X7_item : GoodIn wsL_law wsX7_item := goodIn_r _ [908, 98, 850, 851, 5, 852, 185, 124, 125, 126, 853, 854, 855, 856, 857, 858, 859, 96, 97, 876, 877, 878, 926, 927, 928, 929, 930, 931, 932, 933, 934, 935, 936, 937, 938, 939, 940, 941, 942] (by decide +kernel) (by decide +kernel)
set_option maxRecDepth 20000 in
theorem gL_law_X7_item : GoodIn wsL_law (wsV RL 146 RX7 yX7_item wsX7_item) := goodIn_app (goodIn_of _ (by decide +kernel)) ggL_law_X7_item
set_option maxRecDepth 20000 in
theorem ggL_law_X6_copy : GoodIn wsL_law wsX6_copy := goodIn_r _ [912, 27, 895, 913, 831, 914, 383, 384, 385, 813, 814, 2, 815, 107, 108, 109, 915, 823, 824, 29, 825, 826, 920, 921, 922, 923, 924, 925, 963, 964, 965, 966] (by decide +kernel) (by decide +kernel)
set_option maxRecDepth 20000 in
theorem gL_law_X6_copy : GoodIn wsL_law (wsV RL 147 RX6 yX6_copy wsX6_copy) := goodIn_app (goodIn_of _ (by decide +kernel)) ggL_law_X6_copy
set_option maxRecDepth 20000 in
theorem ggL_law_X7_copy : GoodIn wsL_law wsX7_copy := goodIn_r _ [919, 96, 99, 98, 850, 851, 5, 852, 185, 124, 125, 126, 856, 857, 858, 859, 97, 926, 927, 928, 929, 930, 931, 932, 933, 934, 935, 936, 937, 938, 939, 940, 941, 942] (by decide +kernel) (by decide +kernel)
set_option maxRecDepth 20000 in
theorem gL_law_X7_copy : GoodIn wsL_law (wsV RL 150 RX7 yX7_copy wsX7_copy) := goodIn_app (goodIn_of _ (by decide +kernel)) ggL_law_X7_copy
