set_option maxRecDepth 20000 in
theorem ggL_law_X8_hours : GoodIn wsL_law wsX8_hours := goodIn_r _ [636, 16, 442, 443, 444, 15, 445, 446, 447, 448, 449, 50, 637, 638, 639, 2, 640, 475, 476, 477, 478, 922, 923, 924, 925, 926, 927, 928, 929, 954, 955, 956, 957, 958, 959, 960] (by decide +kernel) (by decide +kernel)
set_option maxRecDepth 20000 in
theorem gL_law_X8_hours : GoodIn wsL_law (wsV RL 85 RX8 yX8_hours wsX8_hours) := goodIn_app (goodIn_of _ (by decide +kernel)) ggL_law_X8_hours
set_option maxRecDepth 20000 in
theorem ggL_law_X9_hours : GoodIn wsL_law wsX9_hours := goodIn_r _ [644, 163, 463, 464, 465, 5, 466, 169, 170, 171, 930, 931, 932, 933, 934, 935, 936, 937, 938, 939, 940, 941, 942, 943, 944, 945, 946, 947, 948, 949, 950, 951, 952, 953] (by decide +kernel) (by decide +kernel)
set_option maxRecDepth 20000 in
theorem gL_law_X9_hours : GoodIn wsL_law (wsV RL 88 RX9 yX9_hours wsX9_hours) := goodIn_app (goodIn_of _ (by decide +kernel)) ggL_law_X9_hours
set_option maxRecDepth 20000 in
theorem ggL_law_X8_wear : GoodIn wsL_law wsX8_wear := goodIn_r _ [648, 16, 408, 409, 144, 410, 123, 124, 2, 125, 649, 147, 148, 650, 150, 151, 651, 652, 653, 475, 476, 477, 15, 478, 50, 411, 412, 413, 414, 415, 416, 417, 418, 49, 654, 447, 448, 449, 922, 923, 924, 925, 926, 927, 928, 929, 954, 955, 956, 957, 958, 959, 960] (by decide +kernel) (by decide +kernel)
set_option maxRecDepth 20000 in
theorem gL_law_X8_wear : GoodIn wsL_law (wsV RL 89 RX8 yX8_wear wsX8_wear) := goodIn_app (goodIn_of _ (by decide +kernel)) ggL_law_X8_wear
set_option maxRecDepth 20000 in
theorem ggL_law_X9_wear : GoodIn wsL_law wsX9_wear := goodIn_r _ [658, 659, 660, 163, 423, 424, 5, 425, 426, 169, 170, 171, 467, 468, 469, 470, 427, 428, 429, 430, 108, 104, 105, 106, 431, 432, 433, 434, 109, 435, 436, 437, 930, 931, 932, 933, 934, 935, 936, 937, 938, 939, 940, 941, 942, 943, 944, 945, 946, 947, 948, 949, 950, 951, 952, 953] (by decide +kernel) (by decide +kernel)
set_option maxRecDepth 20000 in
theorem gL_law_X9_wear : GoodIn wsL_law (wsV RL 92 RX9 yX9_wear wsX9_wear) := goodIn_app (goodIn_of _ (by decide +kernel)) ggL_law_X9_wear
set_option maxRecDepth 20000 in
theorem ggL_law_X8_check : GoodIn wsL_law wsX8_check := goodIn_r _ [664, 16, 188, 189, 190, 2, 191, 39, 192, 193, 194, 475, 476, 477, 15, 478, 50, 195, 196, 197, 41, 198, 98, 199, 200, 201, 202, 203, 204, 205, 206, 99, 207, 208, 209, 210, 211, 212, 213, 214, 97, 665, 666, 667, 668, 604, 605, 606, 607, 608, 456, 457, 458, 454, 412, 413, 414, 415, 416, 417, 418, 49, 922, 923, 924, 925, 926, 927, 928, 929, 954, 955, 956, 957, 958, 959, 960, 984, 985, 986] (by decide +kernel) (by decide +kernel)
set_option maxRecDepth 20000 in
theorem gL_law_X8_check : GoodIn wsL_law (wsV RL 93 RX8 yX8_check wsX8_check) := goodIn_app (goodIn_of _ (by decide +kernel)) ggL_law_X8_check
set_option maxRecDepth 20000 in
theorem ggL_law_X9_check : GoodIn wsL_law wsX9_check := goodIn_r _ [672, 163, 117, 673, 225, 226, 5, 227, 228, 169, 170, 171, 229, 230, 231, 232, 233, 234, 235, 236, 115, 116, 674, 675, 676, 677, 467, 468, 469, 470, 427, 428, 429, 430, 108, 104, 105, 106, 431, 432, 433, 434, 109, 435, 436, 437, 930, 931, 932, 933, 934, 935, 936, 937, 938, 939, 940, 941, 942, 943, 944, 945, 946, 947, 948, 949, 950, 951, 952, 953] (by decide +kernel) (by decide +kernel)
set_option maxRecDepth 20000 in
theorem gL_law_X9_check : GoodIn wsL_law (wsV RL 96 RX9 yX9_check wsX9_check) := goodIn_app (goodIn_of _ (by decide +kernel)) ggL_law_X9_check
set_option maxRecDepth 20000 in
theorem ggL_law_X8_tries : GoodIn wsL_law wsX8_tries := goodIn_r _ [681, 16, 28, 442, 443, 444, 15, 445, 446, 447, 448, 449, 50, 123, 124, 2, 125, 604, 605, 606, 607, 608, 456, 457, 458, 454, 412, 413, 414, 415, 416, 417, 418, 49, 682, 683, 684, 27, 685, 78, 77, 80, 686, 687, 688, 689, 690, 79, 691, 623, 157, 624, 692, 376, 377, 378, 693, 143, 144, 145, 146, 147, 148, 149, 150, 151, 694, 392, 393, 394, 52, 695, 696, 697, 698, 699, 700, 701, 702, 703, 704, 705, 706, 707, 708, 922, 923, 924, 925, 926, 927, 928, 929, 954, 955, 956, 957, 958, 959, 960, 973, 974, 975, 976] (by decide +kernel) (by decide +kernel)
set_option maxRecDepth 20000 in
theorem gL_law_X8_tries : GoodIn wsL_law (wsV RL 97 RX8 yX8_tries wsX8_tries) := goodIn_app (goodIn_of _ (by decide +kernel)) ggL_law_X8_tries
set_option maxRecDepth 20000 in
theorem ggL_law_X9_tries : GoodIn wsL_law wsX9_tries := goodIn_r _ [712, 713, 714, 463, 464, 465, 5, 466, 163, 169, 170, 171, 164, 165, 166, 167, 168, 715, 716, 717, 718, 113, 467, 468, 469, 470, 427, 428, 429, 430, 108, 104, 105, 106, 431, 432, 433, 434, 109, 435, 436, 437, 719, 720, 721, 722, 930, 931, 932, 933, 934, 935, 936, 937, 938, 939, 940, 941, 942, 943, 944, 945, 946, 947, 948, 949, 950, 951, 952, 953] (by decide +kernel) (by decide +kernel)
set_option maxRecDepth 20000 in
theorem gL_law_X9_tries : GoodIn wsL_law (wsV RL 100 RX9 yX9_tries wsX9_tries) := goodIn_app (goodIn_of _ (by decide +kernel)) ggL_law_X9_tries
set_option maxRecDepth 20000 in
theorem ggL_law_X8_best : GoodIn wsL_law wsX8_best := goodIn_r _ [726, 16, 341, 342, 28, 442, 443, 444, 15, 445, 446, 447, 448, 449, 50, 123, 124, 2, 125, 604, 605, 606, 607, 608, 456, 457, 458, 454, 412, 413, 414, 415, 416, 417, 418, 49, 682, 683, 684, 27, 685, 78, 77, 80, 686, 727, 728, 729, 687, 688, 689, 690, 79, 691, 623, 157, 624, 692, 376, 377, 378, 693, 143, 144, 145, 146, 147, 148, 149, 150, 151, 694, 392, 393, 394, 52, 695, 696, 697, 698, 699, 700, 701, 702, 703, 704, 705, 706, 707, 708, 922, 923, 924, 925, 926, 927, 928, 929, 954, 955, 956, 957, 958, 959, 960, 973, 974, 975, 976] (by decide +kernel) (by decide +kernel)
set_option maxRecDepth 20000 in
theorem gL_law_X8_best : GoodIn wsL_law (wsV RL 101 RX8 yX8_best wsX8_best) := goodIn_app (goodIn_of _ (by decide +kernel)) ggL_law_X8_best
set_option maxRecDepth 20000 in
theorem ggL_law_X9_best : GoodIn wsL_law wsX9_best := goodIn_r _ [733, 361, 362, 463, 464, 465, 5, 466, 163, 169, 170, 171, 164, 165, 166, 167, 168, 715, 716, 717, 718, 113, 467, 468, 469, 470, 427, 428, 429, 430, 108, 104, 105, 106, 431, 432, 433, 434, 109, 435, 436, 437, 734, 735, 736, 719, 720, 721, 722, 930, 931, 932, 933, 934, 935, 936, 937, 938, 939, 940, 941, 942, 943, 944, 945, 946, 947, 948, 949, 950, 951, 952, 953] (by decide +kernel) (by decide +kernel)
set_option maxRecDepth 20000 in
theorem gL_law_X9_best : GoodIn wsL_law (wsV RL 104 RX9 yX9_best wsX9_best) := goodIn_app (goodIn_of _ (by decide +kernel)) ggL_law_X9_best
set_option maxRecDepth 20000 in
theorem ggL_law_X8_apart : GoodIn wsL_law wsX8_apart := goodIn_r _ [740, 341, 16, 622, 623, 157, 624, 741, 291, 292, 342, 408, 409, 144, 410, 123, 124, 2, 125, 727, 728, 729, 742, 143, 145, 146, 147, 148, 149, 150, 151, 391, 392, 393, 15, 394, 52, 743, 696, 697, 698, 699, 700, 701, 744, 707, 708, 922, 923, 924, 925, 926, 927, 928, 929, 954, 955, 956, 957, 958, 959, 960] (by decide +kernel) (by decide +kernel)
set_option maxRecDepth 20000 in
theorem gL_law_X8_apart : GoodIn wsL_law (wsV RL 105 RX8 yX8_apart wsX8_apart) := goodIn_app (goodIn_of _ (by decide +kernel)) ggL_law_X8_apart
set_option maxRecDepth 20000 in
theorem ggL_law_X9_apart : GoodIn wsL_law wsX9_apart := goodIn_r _ [748, 361, 109, 362, 423, 424, 5, 425, 426, 169, 170, 171, 164, 165, 166, 167, 168, 734, 735, 736, 435, 436, 437, 749, 750, 751, 752, 753, 754, 930, 931, 932, 933, 934, 935, 936, 937, 938, 939, 940, 941, 942, 943, 944, 945, 946, 947, 948, 949, 950, 951, 952, 953] (by decide +kernel) (by decide +kernel)
set_option maxRecDepth 20000 in
theorem gL_law_X9_apart : GoodIn wsL_law (wsV RL 108 RX9 yX9_apart wsX9_apart) := goodIn_app (goodIn_of _ (by decide +kernel)) ggL_law_X9_apart
set_option maxRecDepth 20000 in
theorem ggL_law_X8_know : GoodIn wsL_law wsX8_know := goodIn_r _ [758, 32, 408, 409, 144, 410, 759, 760, 761, 31, 762, 85, 84, 86, 763, 764, 765, 766, 922, 923, 924, 925, 926, 927, 928, 929, 977, 978, 979, 980, 981] (by decide +kernel) (by decide +kernel)
set_option maxRecDepth 20000 in
theorem gL_law_X8_know : GoodIn wsL_law (wsV RL 109 RX8 yX8_know wsX8_know) := goodIn_app (goodIn_of _ (by decide +kernel)) ggL_law_X8_know
set_option maxRecDepth 20000 in
theorem ggL_law_X9_know : GoodIn wsL_law wsX9_know := goodIn_r _ [770, 506, 114, 771, 423, 424, 5, 425, 426, 169, 170, 171, 930, 931, 932, 933, 934, 935, 936, 937, 938, 939, 940, 941, 942, 943, 944, 945, 946, 947, 948, 949, 950, 951, 952, 953] (by decide +kernel) (by decide +kernel)
set_option maxRecDepth 20000 in
theorem gL_law_X9_know : GoodIn wsL_law (wsV RL 112 RX9 yX9_know wsX9_know) := goodIn_app (goodIn_of _ (by decide +kernel)) ggL_law_X9_know
set_option maxRecDepth 20000 in
theorem ggL_law_X8_box : GoodIn wsL_law wsX8_box := goodIn_r _ [775, 36, 123, 124, 2, 125, 776, 777, 778, 35, 779, 92, 93, 922, 923, 924, 925, 926, 927, 928, 929, 982, 983] (by decide +kernel) (by decide +kernel)
set_option maxRecDepth 20000 in
theorem gL_law_X8_box : GoodIn wsL_law (wsV RL 113 RX8 yX8_box wsX8_box) := goodIn_app (goodIn_of _ (by decide +kernel)) ggL_law_X8_box
set_option maxRecDepth 20000 in
theorem ggL_law_X9_box : GoodIn wsL_law wsX9_box := goodIn_r _ [783, 784, 785, 786, 787, 5, 788, 789, 790, 169, 170, 171, 930, 931, 932, 933, 934, 935, 936, 937, 938, 939, 940, 941, 942, 943, 944, 945, 946, 947, 948, 949, 950, 951, 952, 953] (by decide +kernel) (by decide +kernel)
set_option maxRecDepth 20000 in
theorem gL_law_X9_box : GoodIn wsL_law (wsV RL 116 RX9 yX9_box wsX9_box) := goodIn_app (goodIn_of _ (by decide +kernel)) ggL_law_X9_box
set_option maxRecDepth 20000 in
theorem ggL_law_X8_step : GoodIn wsL_law wsX8_step := goodIn_r _ [794, 32, 36, 16, 123, 124, 2, 125, 490, 491, 492, 31, 493, 85, 391, 392, 393, 15, 394, 52, 795, 796, 797, 35, 798, 92, 93, 799, 291, 157, 292, 800, 623, 624, 801, 802, 803, 804, 805, 84, 806, 143, 144, 145, 146, 147, 148, 149, 150, 151, 807, 699, 700, 701, 808, 809, 810, 922, 923, 924, 925, 926, 927, 928, 929, 977, 978, 979, 980, 981, 954, 955, 956, 957, 958, 959, 960, 982, 983] (by decide +kernel) (by decide +kernel)
set_option maxRecDepth 20000 in
theorem gL_law_X8_step : GoodIn wsL_law (wsV RL 117 RX8 yX8_step wsX8_step) := goodIn_app (goodIn_of _ (by decide +kernel)) ggL_law_X8_step
