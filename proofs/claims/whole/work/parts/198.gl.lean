set_option maxRecDepth 20000 in
theorem ggL_law_X8_hours : GoodIn wsL_law wsX8_hours := goodIn_r _ [632, 16, 442, 443, 444, 15, 445, 446, 447, 448, 449, 50, 633, 634, 635, 2, 636, 475, 476, 477, 478, 918, 919, 920, 921, 922, 923, 924, 925, 950, 951, 952, 953, 954, 955, 956] (by decide +kernel) (by decide +kernel)
set_option maxRecDepth 20000 in
theorem gL_law_X8_hours : GoodIn wsL_law (wsV RL 85 RX8 yX8_hours wsX8_hours) := goodIn_app (goodIn_of _ (by decide +kernel)) ggL_law_X8_hours
set_option maxRecDepth 20000 in
theorem ggL_law_X9_hours : GoodIn wsL_law wsX9_hours := goodIn_r _ [640, 163, 463, 464, 465, 5, 466, 169, 170, 171, 926, 927, 928, 929, 930, 931, 932, 933, 934, 935, 936, 937, 938, 939, 940, 941, 942, 943, 944, 945, 946, 947, 948, 949] (by decide +kernel) (by decide +kernel)
set_option maxRecDepth 20000 in
theorem gL_law_X9_hours : GoodIn wsL_law (wsV RL 88 RX9 yX9_hours wsX9_hours) := goodIn_app (goodIn_of _ (by decide +kernel)) ggL_law_X9_hours
set_option maxRecDepth 20000 in
theorem ggL_law_X8_wear : GoodIn wsL_law wsX8_wear := goodIn_r _ [644, 16, 408, 409, 144, 410, 123, 124, 2, 125, 645, 147, 148, 646, 150, 151, 647, 648, 649, 475, 476, 477, 15, 478, 50, 411, 412, 413, 414, 415, 416, 417, 418, 49, 650, 447, 448, 449, 918, 919, 920, 921, 922, 923, 924, 925, 950, 951, 952, 953, 954, 955, 956] (by decide +kernel) (by decide +kernel)
set_option maxRecDepth 20000 in
theorem gL_law_X8_wear : GoodIn wsL_law (wsV RL 89 RX8 yX8_wear wsX8_wear) := goodIn_app (goodIn_of _ (by decide +kernel)) ggL_law_X8_wear
set_option maxRecDepth 20000 in
theorem ggL_law_X9_wear : GoodIn wsL_law wsX9_wear := goodIn_r _ [654, 655, 656, 163, 423, 424, 5, 425, 426, 169, 170, 171, 467, 468, 469, 470, 427, 428, 429, 430, 108, 104, 105, 106, 431, 432, 433, 434, 109, 435, 436, 437, 926, 927, 928, 929, 930, 931, 932, 933, 934, 935, 936, 937, 938, 939, 940, 941, 942, 943, 944, 945, 946, 947, 948, 949] (by decide +kernel) (by decide +kernel)
set_option maxRecDepth 20000 in
theorem gL_law_X9_wear : GoodIn wsL_law (wsV RL 92 RX9 yX9_wear wsX9_wear) := goodIn_app (goodIn_of _ (by decide +kernel)) ggL_law_X9_wear
set_option maxRecDepth 20000 in
theorem ggL_law_X8_check : GoodIn wsL_law wsX8_check := goodIn_r _ [660, 16, 188, 189, 190, 2, 191, 39, 192, 193, 194, 475, 476, 477, 15, 478, 50, 195, 196, 197, 41, 198, 98, 199, 200, 201, 202, 203, 204, 205, 206, 99, 207, 208, 209, 210, 211, 212, 213, 214, 97, 661, 662, 663, 664, 600, 601, 602, 603, 604, 456, 457, 458, 454, 412, 413, 414, 415, 416, 417, 418, 49, 918, 919, 920, 921, 922, 923, 924, 925, 950, 951, 952, 953, 954, 955, 956, 980, 981, 982] (by decide +kernel) (by decide +kernel)
set_option maxRecDepth 20000 in
theorem gL_law_X8_check : GoodIn wsL_law (wsV RL 93 RX8 yX8_check wsX8_check) := goodIn_app (goodIn_of _ (by decide +kernel)) ggL_law_X8_check
set_option maxRecDepth 20000 in
theorem ggL_law_X9_check : GoodIn wsL_law wsX9_check := goodIn_r _ [668, 163, 117, 669, 225, 226, 5, 227, 228, 169, 170, 171, 229, 230, 231, 232, 233, 234, 235, 236, 115, 116, 670, 671, 672, 673, 467, 468, 469, 470, 427, 428, 429, 430, 108, 104, 105, 106, 431, 432, 433, 434, 109, 435, 436, 437, 926, 927, 928, 929, 930, 931, 932, 933, 934, 935, 936, 937, 938, 939, 940, 941, 942, 943, 944, 945, 946, 947, 948, 949] (by decide +kernel) (by decide +kernel)
set_option maxRecDepth 20000 in
theorem gL_law_X9_check : GoodIn wsL_law (wsV RL 96 RX9 yX9_check wsX9_check) := goodIn_app (goodIn_of _ (by decide +kernel)) ggL_law_X9_check
set_option maxRecDepth 20000 in
theorem ggL_law_X8_tries : GoodIn wsL_law wsX8_tries := goodIn_r _ [677, 16, 28, 442, 443, 444, 15, 445, 446, 447, 448, 449, 50, 123, 124, 2, 125, 600, 601, 602, 603, 604, 456, 457, 458, 454, 412, 413, 414, 415, 416, 417, 418, 49, 678, 679, 680, 27, 681, 78, 77, 80, 682, 683, 684, 685, 686, 79, 687, 619, 157, 620, 688, 376, 377, 378, 689, 143, 144, 145, 146, 147, 148, 149, 150, 151, 690, 392, 393, 394, 52, 691, 692, 693, 694, 695, 696, 697, 698, 699, 700, 701, 702, 703, 704, 918, 919, 920, 921, 922, 923, 924, 925, 950, 951, 952, 953, 954, 955, 956, 969, 970, 971, 972] (by decide +kernel) (by decide +kernel)
set_option maxRecDepth 20000 in
theorem gL_law_X8_tries : GoodIn wsL_law (wsV RL 97 RX8 yX8_tries wsX8_tries) := goodIn_app (goodIn_of _ (by decide +kernel)) ggL_law_X8_tries
set_option maxRecDepth 20000 in
theorem ggL_law_X9_tries : GoodIn wsL_law wsX9_tries := goodIn_r _ [708, 709, 710, 463, 464, 465, 5, 466, 163, 169, 170, 171, 164, 165, 166, 167, 168, 711, 712, 713, 714, 113, 467, 468, 469, 470, 427, 428, 429, 430, 108, 104, 105, 106, 431, 432, 433, 434, 109, 435, 436, 437, 715, 716, 717, 718, 926, 927, 928, 929, 930, 931, 932, 933, 934, 935, 936, 937, 938, 939, 940, 941, 942, 943, 944, 945, 946, 947, 948, 949] (by decide +kernel) (by decide +kernel)
set_option maxRecDepth 20000 in
theorem gL_law_X9_tries : GoodIn wsL_law (wsV RL 100 RX9 yX9_tries wsX9_tries) := goodIn_app (goodIn_of _ (by decide +kernel)) ggL_law_X9_tries
set_option maxRecDepth 20000 in
theorem ggL_law_X8_best : GoodIn wsL_law wsX8_best := goodIn_r _ [722, 16, 341, 342, 28, 442, 443, 444, 15, 445, 446, 447, 448, 449, 50, 123, 124, 2, 125, 600, 601, 602, 603, 604, 456, 457, 458, 454, 412, 413, 414, 415, 416, 417, 418, 49, 678, 679, 680, 27, 681, 78, 77, 80, 682, 723, 724, 725, 683, 684, 685, 686, 79, 687, 619, 157, 620, 688, 376, 377, 378, 689, 143, 144, 145, 146, 147, 148, 149, 150, 151, 690, 392, 393, 394, 52, 691, 692, 693, 694, 695, 696, 697, 698, 699, 700, 701, 702, 703, 704, 918, 919, 920, 921, 922, 923, 924, 925, 950, 951, 952, 953, 954, 955, 956, 969, 970, 971, 972] (by decide +kernel) (by decide +kernel)
set_option maxRecDepth 20000 in
theorem gL_law_X8_best : GoodIn wsL_law (wsV RL 101 RX8 yX8_best wsX8_best) := goodIn_app (goodIn_of _ (by decide +kernel)) ggL_law_X8_best
set_option maxRecDepth 20000 in
theorem ggL_law_X9_best : GoodIn wsL_law wsX9_best := goodIn_r _ [729, 361, 362, 463, 464, 465, 5, 466, 163, 169, 170, 171, 164, 165, 166, 167, 168, 711, 712, 713, 714, 113, 467, 468, 469, 470, 427, 428, 429, 430, 108, 104, 105, 106, 431, 432, 433, 434, 109, 435, 436, 437, 730, 731, 732, 715, 716, 717, 718, 926, 927, 928, 929, 930, 931, 932, 933, 934, 935, 936, 937, 938, 939, 940, 941, 942, 943, 944, 945, 946, 947, 948, 949] (by decide +kernel) (by decide +kernel)
set_option maxRecDepth 20000 in
theorem gL_law_X9_best : GoodIn wsL_law (wsV RL 104 RX9 yX9_best wsX9_best) := goodIn_app (goodIn_of _ (by decide +kernel)) ggL_law_X9_best
set_option maxRecDepth 20000 in
theorem ggL_law_X8_apart : GoodIn wsL_law wsX8_apart := goodIn_r _ [736, 341, 16, 618, 619, 157, 620, 737, 291, 292, 342, 408, 409, 144, 410, 123, 124, 2, 125, 723, 724, 725, 738, 143, 145, 146, 147, 148, 149, 150, 151, 391, 392, 393, 15, 394, 52, 739, 692, 693, 694, 695, 696, 697, 740, 703, 704, 918, 919, 920, 921, 922, 923, 924, 925, 950, 951, 952, 953, 954, 955, 956] (by decide +kernel) (by decide +kernel)
set_option maxRecDepth 20000 in
theorem gL_law_X8_apart : GoodIn wsL_law (wsV RL 105 RX8 yX8_apart wsX8_apart) := goodIn_app (goodIn_of _ (by decide +kernel)) ggL_law_X8_apart
set_option maxRecDepth 20000 in
theorem ggL_law_X9_apart : GoodIn wsL_law wsX9_apart := goodIn_r _ [744, 361, 109, 362, 423, 424, 5, 425, 426, 169, 170, 171, 164, 165, 166, 167, 168, 730, 731, 732, 435, 436, 437, 745, 746, 747, 748, 749, 750, 926, 927, 928, 929, 930, 931, 932, 933, 934, 935, 936, 937, 938, 939, 940, 941, 942, 943, 944, 945, 946, 947, 948, 949] (by decide +kernel) (by decide +kernel)
set_option maxRecDepth 20000 in
theorem gL_law_X9_apart : GoodIn wsL_law (wsV RL 108 RX9 yX9_apart wsX9_apart) := goodIn_app (goodIn_of _ (by decide +kernel)) ggL_law_X9_apart
set_option maxRecDepth 20000 in
theorem ggL_law_X8_know : GoodIn wsL_law wsX8_know := goodIn_r _ [754, 32, 408, 409, 144, 410, 755, 756, 757, 31, 758, 85, 84, 86, 759, 760, 761, 762, 918, 919, 920, 921, 922, 923, 924, 925, 973, 974, 975, 976, 977] (by decide +kernel) (by decide +kernel)
set_option maxRecDepth 20000 in
theorem gL_law_X8_know : GoodIn wsL_law (wsV RL 109 RX8 yX8_know wsX8_know) := goodIn_app (goodIn_of _ (by decide +kernel)) ggL_law_X8_know
set_option maxRecDepth 20000 in
theorem ggL_law_X9_know : GoodIn wsL_law wsX9_know := goodIn_r _ [766, 506, 114, 767, 423, 424, 5, 425, 426, 169, 170, 171, 926, 927, 928, 929, 930, 931, 932, 933, 934, 935, 936, 937, 938, 939, 940, 941, 942, 943, 944, 945, 946, 947, 948, 949] (by decide +kernel) (by decide +kernel)
set_option maxRecDepth 20000 in
theorem gL_law_X9_know : GoodIn wsL_law (wsV RL 112 RX9 yX9_know wsX9_know) := goodIn_app (goodIn_of _ (by decide +kernel)) ggL_law_X9_know
set_option maxRecDepth 20000 in
theorem ggL_law_X8_box : GoodIn wsL_law wsX8_box := goodIn_r _ [771, 36, 123, 124, 2, 125, 772, 773, 774, 35, 775, 92, 93, 918, 919, 920, 921, 922, 923, 924, 925, 978, 979] (by decide +kernel) (by decide +kernel)
set_option maxRecDepth 20000 in
theorem gL_law_X8_box : GoodIn wsL_law (wsV RL 113 RX8 yX8_box wsX8_box) := goodIn_app (goodIn_of _ (by decide +kernel)) ggL_law_X8_box
set_option maxRecDepth 20000 in
theorem ggL_law_X9_box : GoodIn wsL_law wsX9_box := goodIn_r _ [779, 780, 781, 782, 783, 5, 784, 785, 786, 169, 170, 171, 926, 927, 928, 929, 930, 931, 932, 933, 934, 935, 936, 937, 938, 939, 940, 941, 942, 943, 944, 945, 946, 947, 948, 949] (by decide +kernel) (by decide +kernel)
set_option maxRecDepth 20000 in
theorem gL_law_X9_box : GoodIn wsL_law (wsV RL 116 RX9 yX9_box wsX9_box) := goodIn_app (goodIn_of _ (by decide +kernel)) ggL_law_X9_box
set_option maxRecDepth 20000 in
theorem ggL_law_X8_step : GoodIn wsL_law wsX8_step := goodIn_r _ [790, 32, 36, 16, 123, 124, 2, 125, 490, 491, 492, 31, 493, 85, 391, 392, 393, 15, 394, 52, 791, 792, 793, 35, 794, 92, 93, 795, 291, 157, 292, 796, 619, 620, 797, 798, 799, 800, 801, 84, 802, 143, 144, 145, 146, 147, 148, 149, 150, 151, 803, 695, 696, 697, 804, 805, 806, 918, 919, 920, 921, 922, 923, 924, 925, 973, 974, 975, 976, 977, 950, 951, 952, 953, 954, 955, 956, 978, 979] (by decide +kernel) (by decide +kernel)
set_option maxRecDepth 20000 in
theorem gL_law_X8_step : GoodIn wsL_law (wsV RL 117 RX8 yX8_step wsX8_step) := goodIn_app (goodIn_of _ (by decide +kernel)) ggL_law_X8_step
