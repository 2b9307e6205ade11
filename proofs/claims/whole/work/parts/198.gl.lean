set_option maxRecDepth 20000 in
theorem ggL_law_X8_hours : GoodIn wsL_law wsX8_hours := goodIn_r _ [632, 16, 438, 439, 440, 15, 441, 442, 443, 444, 445, 50, 633, 634, 635, 2, 636, 471, 472, 473, 474, 917, 918, 919, 920, 921, 922, 923, 924, 949, 950, 951, 952, 953, 954, 955] (by decide +kernel) (by decide +kernel)
set_option maxRecDepth 20000 in
theorem gL_law_X8_hours : GoodIn wsL_law (wsV RL 85 RX8 yX8_hours wsX8_hours) := goodIn_app (goodIn_of _ (by decide +kernel)) ggL_law_X8_hours
set_option maxRecDepth 20000 in
theorem ggL_law_X9_hours : GoodIn wsL_law wsX9_hours := goodIn_r _ [640, 159, 459, 460, 461, 5, 462, 165, 166, 167, 925, 926, 927, 928, 929, 930, 931, 932, 933, 934, 935, 936, 937, 938, 939, 940, 941, 942, 943, 944, 945, 946, 947, 948] (by decide +kernel) (by decide +kernel)
set_option maxRecDepth 20000 in
theorem gL_law_X9_hours : GoodIn wsL_law (wsV RL 88 RX9 yX9_hours wsX9_hours) := goodIn_app (goodIn_of _ (by decide +kernel)) ggL_law_X9_hours
set_option maxRecDepth 20000 in
theorem ggL_law_X8_wear : GoodIn wsL_law wsX8_wear := goodIn_r _ [644, 16, 404, 405, 140, 406, 119, 120, 2, 121, 645, 143, 144, 646, 146, 147, 647, 648, 649, 471, 472, 473, 15, 474, 50, 407, 408, 409, 410, 411, 412, 413, 414, 49, 650, 443, 444, 445, 917, 918, 919, 920, 921, 922, 923, 924, 949, 950, 951, 952, 953, 954, 955] (by decide +kernel) (by decide +kernel)
set_option maxRecDepth 20000 in
theorem gL_law_X8_wear : GoodIn wsL_law (wsV RL 89 RX8 yX8_wear wsX8_wear) := goodIn_app (goodIn_of _ (by decide +kernel)) ggL_law_X8_wear
set_option maxRecDepth 20000 in
theorem ggL_law_X9_wear : GoodIn wsL_law wsX9_wear := goodIn_r _ [654, 655, 656, 159, 419, 420, 5, 421, 422, 165, 166, 167, 463, 464, 465, 466, 423, 424, 425, 426, 104, 100, 101, 102, 427, 428, 429, 430, 105, 431, 432, 433, 925, 926, 927, 928, 929, 930, 931, 932, 933, 934, 935, 936, 937, 938, 939, 940, 941, 942, 943, 944, 945, 946, 947, 948] (by decide +kernel) (by decide +kernel)
set_option maxRecDepth 20000 in
theorem gL_law_X9_wear : GoodIn wsL_law (wsV RL 92 RX9 yX9_wear wsX9_wear) := goodIn_app (goodIn_of _ (by decide +kernel)) ggL_law_X9_wear
set_option maxRecDepth 20000 in
theorem ggL_law_X8_check : GoodIn wsL_law wsX8_check := goodIn_r _ [660, 16, 184, 185, 186, 2, 187, 39, 188, 189, 190, 471, 472, 473, 15, 474, 50, 191, 192, 193, 41, 194, 94, 195, 196, 197, 198, 199, 200, 201, 202, 95, 203, 204, 205, 206, 207, 208, 209, 210, 93, 661, 662, 663, 664, 600, 601, 602, 603, 604, 452, 453, 454, 450, 408, 409, 410, 411, 412, 413, 414, 49, 917, 918, 919, 920, 921, 922, 923, 924, 949, 950, 951, 952, 953, 954, 955, 977, 978, 979] (by decide +kernel) (by decide +kernel)
set_option maxRecDepth 20000 in
theorem gL_law_X8_check : GoodIn wsL_law (wsV RL 93 RX8 yX8_check wsX8_check) := goodIn_app (goodIn_of _ (by decide +kernel)) ggL_law_X8_check
set_option maxRecDepth 20000 in
theorem ggL_law_X9_check : GoodIn wsL_law wsX9_check := goodIn_r _ [668, 159, 113, 669, 221, 222, 5, 223, 224, 165, 166, 167, 225, 226, 227, 228, 229, 230, 231, 232, 111, 112, 670, 671, 672, 673, 463, 464, 465, 466, 423, 424, 425, 426, 104, 100, 101, 102, 427, 428, 429, 430, 105, 431, 432, 433, 925, 926, 927, 928, 929, 930, 931, 932, 933, 934, 935, 936, 937, 938, 939, 940, 941, 942, 943, 944, 945, 946, 947, 948] (by decide +kernel) (by decide +kernel)
set_option maxRecDepth 20000 in
theorem gL_law_X9_check : GoodIn wsL_law (wsV RL 96 RX9 yX9_check wsX9_check) := goodIn_app (goodIn_of _ (by decide +kernel)) ggL_law_X9_check
set_option maxRecDepth 20000 in
theorem ggL_law_X8_tries : GoodIn wsL_law wsX8_tries := goodIn_r _ [677, 16, 28, 438, 439, 440, 15, 441, 442, 443, 444, 445, 50, 119, 120, 2, 121, 600, 601, 602, 603, 604, 452, 453, 454, 450, 408, 409, 410, 411, 412, 413, 414, 49, 678, 679, 680, 27, 681, 75, 74, 682, 387, 388, 389, 390, 52, 683, 684, 685, 686, 76, 687, 619, 153, 620, 688, 372, 373, 374, 689, 139, 140, 141, 142, 143, 144, 145, 146, 147, 690, 691, 692, 693, 694, 695, 696, 697, 698, 699, 700, 701, 702, 703, 917, 918, 919, 920, 921, 922, 923, 924, 949, 950, 951, 952, 953, 954, 955, 967, 968, 969] (by decide +kernel) (by decide +kernel)
set_option maxRecDepth 20000 in
theorem gL_law_X8_tries : GoodIn wsL_law (wsV RL 97 RX8 yX8_tries wsX8_tries) := goodIn_app (goodIn_of _ (by decide +kernel)) ggL_law_X8_tries
set_option maxRecDepth 20000 in
theorem ggL_law_X9_tries : GoodIn wsL_law wsX9_tries := goodIn_r _ [707, 708, 709, 459, 460, 461, 5, 462, 159, 165, 166, 167, 160, 161, 162, 163, 164, 710, 711, 712, 713, 109, 463, 464, 465, 466, 423, 424, 425, 426, 104, 100, 101, 102, 427, 428, 429, 430, 105, 431, 432, 433, 714, 715, 716, 717, 925, 926, 927, 928, 929, 930, 931, 932, 933, 934, 935, 936, 937, 938, 939, 940, 941, 942, 943, 944, 945, 946, 947, 948] (by decide +kernel) (by decide +kernel)
set_option maxRecDepth 20000 in
theorem gL_law_X9_tries : GoodIn wsL_law (wsV RL 100 RX9 yX9_tries wsX9_tries) := goodIn_app (goodIn_of _ (by decide +kernel)) ggL_law_X9_tries
set_option maxRecDepth 20000 in
theorem ggL_law_X8_best : GoodIn wsL_law wsX8_best := goodIn_r _ [721, 16, 337, 338, 28, 438, 439, 440, 15, 441, 442, 443, 444, 445, 50, 119, 120, 2, 121, 600, 601, 602, 603, 604, 452, 453, 454, 450, 408, 409, 410, 411, 412, 413, 414, 49, 678, 679, 680, 27, 681, 75, 74, 682, 722, 723, 724, 387, 388, 389, 390, 52, 683, 684, 685, 686, 76, 687, 619, 153, 620, 688, 372, 373, 374, 689, 139, 140, 141, 142, 143, 144, 145, 146, 147, 690, 691, 692, 693, 694, 695, 696, 697, 698, 699, 700, 701, 702, 703, 917, 918, 919, 920, 921, 922, 923, 924, 949, 950, 951, 952, 953, 954, 955, 967, 968, 969] (by decide +kernel) (by decide +kernel)
set_option maxRecDepth 20000 in
theorem gL_law_X8_best : GoodIn wsL_law (wsV RL 101 RX8 yX8_best wsX8_best) := goodIn_app (goodIn_of _ (by decide +kernel)) ggL_law_X8_best
set_option maxRecDepth 20000 in
theorem ggL_law_X9_best : GoodIn wsL_law wsX9_best := goodIn_r _ [728, 357, 358, 459, 460, 461, 5, 462, 159, 165, 166, 167, 160, 161, 162, 163, 164, 710, 711, 712, 713, 109, 463, 464, 465, 466, 423, 424, 425, 426, 104, 100, 101, 102, 427, 428, 429, 430, 105, 431, 432, 433, 729, 730, 731, 714, 715, 716, 717, 925, 926, 927, 928, 929, 930, 931, 932, 933, 934, 935, 936, 937, 938, 939, 940, 941, 942, 943, 944, 945, 946, 947, 948] (by decide +kernel) (by decide +kernel)
set_option maxRecDepth 20000 in
theorem gL_law_X9_best : GoodIn wsL_law (wsV RL 104 RX9 yX9_best wsX9_best) := goodIn_app (goodIn_of _ (by decide +kernel)) ggL_law_X9_best
set_option maxRecDepth 20000 in
theorem ggL_law_X8_apart : GoodIn wsL_law wsX8_apart := goodIn_r _ [735, 337, 16, 618, 619, 153, 620, 736, 287, 288, 338, 404, 405, 140, 406, 119, 120, 2, 121, 722, 723, 724, 737, 139, 141, 142, 143, 144, 145, 146, 147, 387, 388, 389, 15, 390, 52, 738, 691, 692, 693, 694, 695, 696, 739, 702, 703, 917, 918, 919, 920, 921, 922, 923, 924, 949, 950, 951, 952, 953, 954, 955] (by decide +kernel) (by decide +kernel)
set_option maxRecDepth 20000 in
theorem gL_law_X8_apart : GoodIn wsL_law (wsV RL 105 RX8 yX8_apart wsX8_apart) := goodIn_app (goodIn_of _ (by decide +kernel)) ggL_law_X8_apart
set_option maxRecDepth 20000 in
theorem ggL_law_X9_apart : GoodIn wsL_law wsX9_apart := goodIn_r _ [743, 357, 105, 358, 419, 420, 5, 421, 422, 165, 166, 167, 160, 161, 162, 163, 164, 729, 730, 731, 431, 432, 433, 744, 745, 746, 747, 748, 749, 925, 926, 927, 928, 929, 930, 931, 932, 933, 934, 935, 936, 937, 938, 939, 940, 941, 942, 943, 944, 945, 946, 947, 948] (by decide +kernel) (by decide +kernel)
set_option maxRecDepth 20000 in
theorem gL_law_X9_apart : GoodIn wsL_law (wsV RL 108 RX9 yX9_apart wsX9_apart) := goodIn_app (goodIn_of _ (by decide +kernel)) ggL_law_X9_apart
set_option maxRecDepth 20000 in
theorem ggL_law_X8_know : GoodIn wsL_law wsX8_know := goodIn_r _ [753, 32, 404, 405, 140, 406, 754, 755, 756, 31, 757, 81, 80, 82, 758, 759, 760, 761, 917, 918, 919, 920, 921, 922, 923, 924, 970, 971, 972, 973, 974] (by decide +kernel) (by decide +kernel)
set_option maxRecDepth 20000 in
theorem gL_law_X8_know : GoodIn wsL_law (wsV RL 109 RX8 yX8_know wsX8_know) := goodIn_app (goodIn_of _ (by decide +kernel)) ggL_law_X8_know
set_option maxRecDepth 20000 in
theorem ggL_law_X9_know : GoodIn wsL_law wsX9_know := goodIn_r _ [765, 502, 110, 766, 419, 420, 5, 421, 422, 165, 166, 167, 925, 926, 927, 928, 929, 930, 931, 932, 933, 934, 935, 936, 937, 938, 939, 940, 941, 942, 943, 944, 945, 946, 947, 948] (by decide +kernel) (by decide +kernel)
set_option maxRecDepth 20000 in
theorem gL_law_X9_know : GoodIn wsL_law (wsV RL 112 RX9 yX9_know wsX9_know) := goodIn_app (goodIn_of _ (by decide +kernel)) ggL_law_X9_know
set_option maxRecDepth 20000 in
theorem ggL_law_X8_box : GoodIn wsL_law wsX8_box := goodIn_r _ [770, 36, 119, 120, 2, 121, 771, 772, 773, 35, 774, 88, 89, 917, 918, 919, 920, 921, 922, 923, 924, 975, 976] (by decide +kernel) (by decide +kernel)
set_option maxRecDepth 20000 in
theorem gL_law_X8_box : GoodIn wsL_law (wsV RL 113 RX8 yX8_box wsX8_box) := goodIn_app (goodIn_of _ (by decide +kernel)) ggL_law_X8_box
set_option maxRecDepth 20000 in
theorem ggL_law_X9_box : GoodIn wsL_law wsX9_box := goodIn_r _ [778, 779, 780, 781, 782, 5, 783, 784, 785, 165, 166, 167, 925, 926, 927, 928, 929, 930, 931, 932, 933, 934, 935, 936, 937, 938, 939, 940, 941, 942, 943, 944, 945, 946, 947, 948] (by decide +kernel) (by decide +kernel)
set_option maxRecDepth 20000 in
theorem gL_law_X9_box : GoodIn wsL_law (wsV RL 116 RX9 yX9_box wsX9_box) := goodIn_app (goodIn_of _ (by decide +kernel)) ggL_law_X9_box
set_option maxRecDepth 20000 in
theorem ggL_law_X8_step : GoodIn wsL_law wsX8_step := goodIn_r _ [789, 32, 36, 16, 119, 120, 2, 121, 486, 487, 488, 31, 489, 81, 387, 388, 389, 15, 390, 52, 790, 791, 792, 35, 793, 88, 89, 794, 287, 153, 288, 795, 619, 620, 796, 797, 798, 799, 800, 80, 801, 139, 140, 141, 142, 143, 144, 145, 146, 147, 802, 694, 695, 696, 803, 804, 805, 917, 918, 919, 920, 921, 922, 923, 924, 970, 971, 972, 973, 974, 949, 950, 951, 952, 953, 954, 955, 975, 976] (by decide +kernel) (by decide +kernel)
set_option maxRecDepth 20000 in
theorem gL_law_X8_step : GoodIn wsL_law (wsV RL 117 RX8 yX8_step wsX8_step) := goodIn_app (goodIn_of _ (by decide +kernel)) ggL_law_X8_step
