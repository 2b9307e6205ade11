set_option maxRecDepth 20000 in
theorem ggL_law_X9_error : GoodIn wsL_law wsX9_error := goodIn_r _ [398, 399, 105, 165, 166, 5, 167, 925, 926, 927, 928, 929, 930, 931, 932, 933, 934, 935, 936, 937, 938, 939, 940, 941, 942, 943, 944, 945, 946, 947, 948] (by decide +kernel) (by decide +kernel)
set_option maxRecDepth 20000 in
theorem gL_law_X9_error : GoodIn wsL_law (wsV RL 52 RX9 yX9_error wsX9_error) := goodIn_app (goodIn_of _ (by decide +kernel)) ggL_law_X9_error
set_option maxRecDepth 20000 in
theorem ggL_law_X8_meets : GoodIn wsL_law wsX8_meets := goodIn_r _ [403, 16, 339, 131, 132, 15, 133, 50, 404, 405, 140, 406, 407, 408, 409, 410, 411, 412, 413, 414, 49, 917, 918, 919, 920, 921, 922, 923, 924, 949, 950, 951, 952, 953, 954, 955] (by decide +kernel) (by decide +kernel)
set_option maxRecDepth 20000 in
theorem gL_law_X8_meets : GoodIn wsL_law (wsV RL 53 RX8 yX8_meets wsX8_meets) := goodIn_app (goodIn_of _ (by decide +kernel)) ggL_law_X8_meets
set_option maxRecDepth 20000 in
theorem ggL_law_X9_meets : GoodIn wsL_law wsX9_meets := goodIn_r _ [418, 359, 360, 361, 5, 362, 159, 165, 166, 167, 419, 420, 421, 422, 423, 424, 425, 426, 104, 100, 101, 102, 427, 428, 429, 430, 105, 431, 432, 433, 925, 926, 927, 928, 929, 930, 931, 932, 933, 934, 935, 936, 937, 938, 939, 940, 941, 942, 943, 944, 945, 946, 947, 948] (by decide +kernel) (by decide +kernel)
set_option maxRecDepth 20000 in
theorem gL_law_X9_meets : GoodIn wsL_law (wsV RL 56 RX9 yX9_meets wsX9_meets) := goodIn_app (goodIn_of _ (by decide +kernel)) ggL_law_X9_meets
set_option maxRecDepth 20000 in
theorem ggL_law_X8_lets : GoodIn wsL_law wsX8_lets := goodIn_r _ [437, 16, 438, 439, 440, 15, 441, 442, 443, 444, 445, 50, 446, 447, 448, 449, 450, 408, 409, 410, 411, 412, 413, 414, 49, 451, 452, 453, 454, 917, 918, 919, 920, 921, 922, 923, 924, 949, 950, 951, 952, 953, 954, 955] (by decide +kernel) (by decide +kernel)
set_option maxRecDepth 20000 in
theorem gL_law_X8_lets : GoodIn wsL_law (wsV RL 57 RX8 yX8_lets wsX8_lets) := goodIn_app (goodIn_of _ (by decide +kernel)) ggL_law_X8_lets
set_option maxRecDepth 20000 in
theorem ggL_law_X9_lets : GoodIn wsL_law wsX9_lets := goodIn_r _ [458, 459, 460, 461, 5, 462, 159, 165, 166, 167, 463, 464, 465, 466, 423, 424, 425, 426, 104, 100, 101, 102, 427, 428, 429, 430, 105, 431, 432, 433, 925, 926, 927, 928, 929, 930, 931, 932, 933, 934, 935, 936, 937, 938, 939, 940, 941, 942, 943, 944, 945, 946, 947, 948] (by decide +kernel) (by decide +kernel)
set_option maxRecDepth 20000 in
theorem gL_law_X9_lets : GoodIn wsL_law (wsV RL 60 RX9 yX9_lets wsX9_lets) := goodIn_app (goodIn_of _ (by decide +kernel)) ggL_law_X9_lets
set_option maxRecDepth 20000 in
theorem ggL_law_X8_count : GoodIn wsL_law wsX8_count := goodIn_r _ [470, 16, 32, 471, 472, 473, 15, 474, 50, 475, 476, 477, 478, 51, 479, 480, 481, 482, 483, 484, 485, 486, 487, 488, 31, 489, 81, 490, 491, 492, 493, 83, 494, 495, 496, 497, 84, 917, 918, 919, 920, 921, 922, 923, 924, 949, 950, 951, 952, 953, 954, 955, 970, 971, 972, 973, 974] (by decide +kernel) (by decide +kernel)
set_option maxRecDepth 20000 in
theorem gL_law_X8_count : GoodIn wsL_law (wsV RL 61 RX8 yX8_count wsX8_count) := goodIn_app (goodIn_of _ (by decide +kernel)) ggL_law_X8_count
set_option maxRecDepth 20000 in
theorem ggL_law_X9_count : GoodIn wsL_law wsX9_count := goodIn_r _ [501, 159, 104, 502, 503, 504, 925, 926, 927, 928, 929, 930, 931, 932, 933, 934, 935, 936, 937, 938, 939, 940, 941, 942, 943, 944, 945, 946, 947, 948] (by decide +kernel) (by decide +kernel)
set_option maxRecDepth 20000 in
theorem gL_law_X9_count : GoodIn wsL_law (wsV RL 64 RX9 yX9_count wsX9_count) := goodIn_app (goodIn_of _ (by decide +kernel)) ggL_law_X9_count
set_option maxRecDepth 20000 in
theorem ggL_law_X8_fewest : GoodIn wsL_law wsX8_fewest := goodIn_r _ [508, 20, 16, 509, 510, 511, 19, 512, 513, 514, 515, 516, 60, 59, 517, 472, 473, 15, 474, 50, 518, 519, 520, 521, 57, 522, 412, 413, 414, 49, 523, 524, 525, 526, 56, 527, 528, 529, 530, 531, 532, 533, 534, 535, 443, 444, 445, 536, 537, 538, 539, 540, 287, 153, 288, 541, 542, 543, 544, 917, 918, 919, 920, 921, 922, 923, 924, 956, 957, 958, 959, 949, 950, 951, 952, 953, 954, 955] (by decide +kernel) (by decide +kernel)
set_option maxRecDepth 20000 in
theorem gL_law_X8_fewest : GoodIn wsL_law (wsV RL 65 RX8 yX8_fewest wsX8_fewest) := goodIn_app (goodIn_of _ (by decide +kernel)) ggL_law_X8_fewest
set_option maxRecDepth 20000 in
theorem ggL_law_X9_fewest : GoodIn wsL_law wsX9_fewest := goodIn_r _ [548, 108, 159, 549, 550, 551, 5, 552, 107, 423, 424, 425, 426, 104, 100, 101, 102, 427, 428, 429, 430, 105, 431, 432, 433, 165, 166, 167, 925, 926, 927, 928, 929, 930, 931, 932, 933, 934, 935, 936, 937, 938, 939, 940, 941, 942, 943, 944, 945, 946, 947, 948] (by decide +kernel) (by decide +kernel)
set_option maxRecDepth 20000 in
theorem gL_law_X9_fewest : GoodIn wsL_law (wsV RL 68 RX9 yX9_fewest wsX9_fewest) := goodIn_app (goodIn_of _ (by decide +kernel)) ggL_law_X9_fewest
set_option maxRecDepth 20000 in
theorem ggL_law_X8_letGo : GoodIn wsL_law wsX8_letGo := goodIn_r _ [556, 20, 16, 557, 558, 559, 19, 560, 513, 514, 515, 516, 60, 59, 517, 472, 473, 15, 474, 50, 518, 519, 520, 521, 57, 522, 412, 413, 414, 49, 523, 524, 525, 526, 56, 527, 528, 529, 530, 531, 532, 533, 534, 535, 443, 444, 445, 536, 537, 538, 539, 540, 287, 153, 288, 541, 542, 543, 544, 561, 480, 481, 482, 483, 484, 485, 562, 917, 918, 919, 920, 921, 922, 923, 924, 956, 957, 958, 959, 949, 950, 951, 952, 953, 954, 955] (by decide +kernel) (by decide +kernel)
set_option maxRecDepth 20000 in
theorem gL_law_X8_letGo : GoodIn wsL_law (wsV RL 69 RX8 yX8_letGo wsX8_letGo) := goodIn_app (goodIn_of _ (by decide +kernel)) ggL_law_X8_letGo
set_option maxRecDepth 20000 in
theorem ggL_law_X9_letGo : GoodIn wsL_law wsX9_letGo := goodIn_r _ [566, 567, 159, 108, 165, 166, 5, 167, 549, 550, 551, 552, 107, 423, 424, 425, 426, 104, 100, 101, 102, 427, 428, 429, 430, 105, 431, 432, 433, 568, 569, 570, 925, 926, 927, 928, 929, 930, 931, 932, 933, 934, 935, 936, 937, 938, 939, 940, 941, 942, 943, 944, 945, 946, 947, 948] (by decide +kernel) (by decide +kernel)
set_option maxRecDepth 20000 in
theorem gL_law_X9_letGo : GoodIn wsL_law (wsV RL 72 RX9 yX9_letGo wsX9_letGo) := goodIn_app (goodIn_of _ (by decide +kernel)) ggL_law_X9_letGo
set_option maxRecDepth 20000 in
theorem ggL_law_X8_together : GoodIn wsL_law wsX8_together := goodIn_r _ [574, 16, 20, 339, 131, 132, 15, 133, 50, 575, 576, 577, 19, 578, 579, 510, 511, 512, 513, 514, 515, 516, 60, 59, 517, 472, 473, 474, 518, 519, 520, 521, 57, 522, 412, 413, 414, 49, 523, 524, 525, 526, 56, 527, 528, 529, 530, 531, 532, 533, 534, 535, 443, 444, 445, 536, 537, 538, 539, 540, 287, 153, 288, 541, 542, 543, 544, 580, 581, 582, 583, 584, 585, 586, 587, 588, 589, 590, 591, 917, 918, 919, 920, 921, 922, 923, 924, 949, 950, 951, 952, 953, 954, 955, 956, 957, 958, 959] (by decide +kernel) (by decide +kernel)
set_option maxRecDepth 20000 in
theorem gL_law_X8_together : GoodIn wsL_law (wsV RL 73 RX8 yX8_together wsX8_together) := goodIn_app (goodIn_of _ (by decide +kernel)) ggL_law_X8_together
set_option maxRecDepth 20000 in
theorem ggL_law_X9_together : GoodIn wsL_law wsX9_together := goodIn_r _ [595, 159, 108, 107, 359, 360, 361, 5, 362, 165, 166, 167, 549, 550, 551, 552, 423, 424, 425, 426, 104, 100, 101, 102, 427, 428, 429, 430, 105, 431, 432, 433, 925, 926, 927, 928, 929, 930, 931, 932, 933, 934, 935, 936, 937, 938, 939, 940, 941, 942, 943, 944, 945, 946, 947, 948] (by decide +kernel) (by decide +kernel)
set_option maxRecDepth 20000 in
theorem gL_law_X9_together : GoodIn wsL_law (wsV RL 76 RX9 yX9_together wsX9_together) := goodIn_app (goodIn_of _ (by decide +kernel)) ggL_law_X9_together
set_option maxRecDepth 20000 in
theorem ggL_law_X8_span : GoodIn wsL_law wsX8_span := goodIn_r _ [599, 16, 337, 338, 438, 439, 440, 15, 441, 442, 443, 444, 445, 50, 119, 120, 2, 121, 600, 601, 602, 603, 604, 452, 453, 454, 450, 408, 409, 410, 411, 412, 413, 414, 49, 605, 606, 607, 608, 609, 287, 153, 288, 138, 139, 140, 141, 142, 143, 144, 145, 146, 147, 917, 918, 919, 920, 921, 922, 923, 924, 949, 950, 951, 952, 953, 954, 955] (by decide +kernel) (by decide +kernel)
set_option maxRecDepth 20000 in
theorem gL_law_X8_span : GoodIn wsL_law (wsV RL 77 RX8 yX8_span wsX8_span) := goodIn_app (goodIn_of _ (by decide +kernel)) ggL_law_X8_span
set_option maxRecDepth 20000 in
theorem ggL_law_X9_span : GoodIn wsL_law wsX9_span := goodIn_r _ [613, 357, 358, 459, 460, 461, 5, 462, 159, 165, 166, 167, 160, 161, 162, 163, 164, 463, 464, 465, 466, 423, 424, 425, 426, 104, 100, 101, 102, 427, 428, 429, 430, 105, 431, 432, 433, 925, 926, 927, 928, 929, 930, 931, 932, 933, 934, 935, 936, 937, 938, 939, 940, 941, 942, 943, 944, 945, 946, 947, 948] (by decide +kernel) (by decide +kernel)
set_option maxRecDepth 20000 in
theorem gL_law_X9_span : GoodIn wsL_law (wsV RL 80 RX9 yX9_span wsX9_span) := goodIn_app (goodIn_of _ (by decide +kernel)) ggL_law_X9_span
set_option maxRecDepth 20000 in
theorem ggL_law_X8_line : GoodIn wsL_law wsX8_line := goodIn_r _ [617, 16, 337, 618, 619, 153, 620, 338, 438, 439, 440, 15, 441, 442, 443, 444, 445, 50, 621, 622, 623, 624, 46, 47, 609, 287, 288, 917, 918, 919, 920, 921, 922, 923, 924, 949, 950, 951, 952, 953, 954, 955] (by decide +kernel) (by decide +kernel)
set_option maxRecDepth 20000 in
theorem gL_law_X8_line : GoodIn wsL_law (wsV RL 81 RX8 yX8_line wsX8_line) := goodIn_app (goodIn_of _ (by decide +kernel)) ggL_law_X8_line
set_option maxRecDepth 20000 in
theorem ggL_law_X9_line : GoodIn wsL_law wsX9_line := goodIn_r _ [628, 228, 357, 159, 100, 101, 358, 459, 460, 461, 5, 462, 165, 166, 167, 925, 926, 927, 928, 929, 930, 931, 932, 933, 934, 935, 936, 937, 938, 939, 940, 941, 942, 943, 944, 945, 946, 947, 948] (by decide +kernel) (by decide +kernel)
set_option maxRecDepth 20000 in
theorem gL_law_X9_line : GoodIn wsL_law (wsV RL 84 RX9 yX9_line wsX9_line) := goodIn_app (goodIn_of _ (by decide +kernel)) ggL_law_X9_line
