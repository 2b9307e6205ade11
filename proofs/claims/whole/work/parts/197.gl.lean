set_option maxRecDepth 20000 in
theorem ggL_law_X9_error : GoodIn wsL_law wsX9_error := goodIn_r _ [402, 403, 109, 169, 170, 5, 171, 930, 931, 932, 933, 934, 935, 936, 937, 938, 939, 940, 941, 942, 943, 944, 945, 946, 947, 948, 949, 950, 951, 952, 953] (by decide +kernel) (by decide +kernel)
set_option maxRecDepth 20000 in
theorem gL_law_X9_error : GoodIn wsL_law (wsV RL 52 RX9 yX9_error wsX9_error) := goodIn_app (goodIn_of _ (by decide +kernel)) ggL_law_X9_error
set_option maxRecDepth 20000 in
theorem ggL_law_X8_meets : GoodIn wsL_law wsX8_meets := goodIn_r _ [407, 16, 343, 135, 136, 15, 137, 50, 408, 409, 144, 410, 411, 412, 413, 414, 415, 416, 417, 418, 49, 922, 923, 924, 925, 926, 927, 928, 929, 954, 955, 956, 957, 958, 959, 960] (by decide +kernel) (by decide +kernel)
set_option maxRecDepth 20000 in
theorem gL_law_X8_meets : GoodIn wsL_law (wsV RL 53 RX8 yX8_meets wsX8_meets) := goodIn_app (goodIn_of _ (by decide +kernel)) ggL_law_X8_meets
set_option maxRecDepth 20000 in
theorem ggL_law_X9_meets : GoodIn wsL_law wsX9_meets := goodIn_r _ [422, 363, 364, 365, 5, 366, 163, 169, 170, 171, 423, 424, 425, 426, 427, 428, 429, 430, 108, 104, 105, 106, 431, 432, 433, 434, 109, 435, 436, 437, 930, 931, 932, 933, 934, 935, 936, 937, 938, 939, 940, 941, 942, 943, 944, 945, 946, 947, 948, 949, 950, 951, 952, 953] (by decide +kernel) (by decide +kernel)
set_option maxRecDepth 20000 in
theorem gL_law_X9_meets : GoodIn wsL_law (wsV RL 56 RX9 yX9_meets wsX9_meets) := goodIn_app (goodIn_of _ (by decide +kernel)) ggL_law_X9_meets
set_option maxRecDepth 20000 in
theorem ggL_law_X8_lets : GoodIn wsL_law wsX8_lets := goodIn_r _ [441, 16, 442, 443, 444, 15, 445, 446, 447, 448, 449, 50, 450, 451, 452, 453, 454, 412, 413, 414, 415, 416, 417, 418, 49, 455, 456, 457, 458, 922, 923, 924, 925, 926, 927, 928, 929, 954, 955, 956, 957, 958, 959, 960] (by decide +kernel) (by decide +kernel)
set_option maxRecDepth 20000 in
theorem gL_law_X8_lets : GoodIn wsL_law (wsV RL 57 RX8 yX8_lets wsX8_lets) := goodIn_app (goodIn_of _ (by decide +kernel)) ggL_law_X8_lets
set_option maxRecDepth 20000 in
theorem ggL_law_X9_lets : GoodIn wsL_law wsX9_lets := goodIn_r _ [462, 463, 464, 465, 5, 466, 163, 169, 170, 171, 467, 468, 469, 470, 427, 428, 429, 430, 108, 104, 105, 106, 431, 432, 433, 434, 109, 435, 436, 437, 930, 931, 932, 933, 934, 935, 936, 937, 938, 939, 940, 941, 942, 943, 944, 945, 946, 947, 948, 949, 950, 951, 952, 953] (by decide +kernel) (by decide +kernel)
set_option maxRecDepth 20000 in
theorem gL_law_X9_lets : GoodIn wsL_law (wsV RL 60 RX9 yX9_lets wsX9_lets) := goodIn_app (goodIn_of _ (by decide +kernel)) ggL_law_X9_lets
set_option maxRecDepth 20000 in
theorem ggL_law_X8_count : GoodIn wsL_law wsX8_count := goodIn_r _ [474, 16, 32, 475, 476, 477, 15, 478, 50, 479, 480, 481, 482, 51, 483, 484, 485, 486, 487, 488, 489, 490, 491, 492, 31, 493, 85, 494, 495, 496, 497, 87, 498, 499, 500, 501, 88, 922, 923, 924, 925, 926, 927, 928, 929, 954, 955, 956, 957, 958, 959, 960, 977, 978, 979, 980, 981] (by decide +kernel) (by decide +kernel)
set_option maxRecDepth 20000 in
theorem gL_law_X8_count : GoodIn wsL_law (wsV RL 61 RX8 yX8_count wsX8_count) := goodIn_app (goodIn_of _ (by decide +kernel)) ggL_law_X8_count
set_option maxRecDepth 20000 in
theorem ggL_law_X9_count : GoodIn wsL_law wsX9_count := goodIn_r _ [505, 163, 108, 506, 507, 508, 930, 931, 932, 933, 934, 935, 936, 937, 938, 939, 940, 941, 942, 943, 944, 945, 946, 947, 948, 949, 950, 951, 952, 953] (by decide +kernel) (by decide +kernel)
set_option maxRecDepth 20000 in
theorem gL_law_X9_count : GoodIn wsL_law (wsV RL 64 RX9 yX9_count wsX9_count) := goodIn_app (goodIn_of _ (by decide +kernel)) ggL_law_X9_count
set_option maxRecDepth 20000 in
theorem ggL_law_X8_fewest : GoodIn wsL_law wsX8_fewest := goodIn_r _ [512, 20, 513, 514, 515, 19, 516, 62, 517, 518, 519, 520, 61, 60, 521, 476, 477, 15, 478, 50, 522, 523, 524, 525, 58, 526, 416, 417, 418, 49, 527, 528, 529, 530, 57, 531, 532, 533, 534, 535, 536, 537, 538, 539, 447, 448, 449, 540, 541, 542, 543, 544, 291, 157, 292, 545, 546, 547, 548, 922, 923, 924, 925, 926, 927, 928, 929, 961, 962, 963, 964, 965, 954, 955, 956, 957, 958, 959, 960] (by decide +kernel) (by decide +kernel)
set_option maxRecDepth 20000 in
theorem gL_law_X8_fewest : GoodIn wsL_law (wsV RL 65 RX8 yX8_fewest wsX8_fewest) := goodIn_app (goodIn_of _ (by decide +kernel)) ggL_law_X8_fewest
set_option maxRecDepth 20000 in
theorem ggL_law_X9_fewest : GoodIn wsL_law wsX9_fewest := goodIn_r _ [552, 112, 163, 553, 554, 555, 5, 556, 111, 427, 428, 429, 430, 108, 104, 105, 106, 431, 432, 433, 434, 109, 435, 436, 437, 169, 170, 171, 930, 931, 932, 933, 934, 935, 936, 937, 938, 939, 940, 941, 942, 943, 944, 945, 946, 947, 948, 949, 950, 951, 952, 953] (by decide +kernel) (by decide +kernel)
set_option maxRecDepth 20000 in
theorem gL_law_X9_fewest : GoodIn wsL_law (wsV RL 68 RX9 yX9_fewest wsX9_fewest) := goodIn_app (goodIn_of _ (by decide +kernel)) ggL_law_X9_fewest
set_option maxRecDepth 20000 in
theorem ggL_law_X8_letGo : GoodIn wsL_law wsX8_letGo := goodIn_r _ [560, 20, 561, 562, 563, 19, 564, 62, 517, 518, 519, 520, 61, 60, 521, 476, 477, 15, 478, 50, 522, 523, 524, 525, 58, 526, 416, 417, 418, 49, 527, 528, 529, 530, 57, 531, 532, 533, 534, 535, 536, 537, 538, 539, 447, 448, 449, 540, 541, 542, 543, 544, 291, 157, 292, 545, 546, 547, 548, 565, 484, 485, 486, 487, 488, 489, 566, 922, 923, 924, 925, 926, 927, 928, 929, 961, 962, 963, 964, 965, 954, 955, 956, 957, 958, 959, 960] (by decide +kernel) (by decide +kernel)
set_option maxRecDepth 20000 in
theorem gL_law_X8_letGo : GoodIn wsL_law (wsV RL 69 RX8 yX8_letGo wsX8_letGo) := goodIn_app (goodIn_of _ (by decide +kernel)) ggL_law_X8_letGo
set_option maxRecDepth 20000 in
theorem ggL_law_X9_letGo : GoodIn wsL_law wsX9_letGo := goodIn_r _ [570, 571, 163, 112, 169, 170, 5, 171, 553, 554, 555, 556, 111, 427, 428, 429, 430, 108, 104, 105, 106, 431, 432, 433, 434, 109, 435, 436, 437, 572, 573, 574, 930, 931, 932, 933, 934, 935, 936, 937, 938, 939, 940, 941, 942, 943, 944, 945, 946, 947, 948, 949, 950, 951, 952, 953] (by decide +kernel) (by decide +kernel)
set_option maxRecDepth 20000 in
theorem gL_law_X9_letGo : GoodIn wsL_law (wsV RL 72 RX9 yX9_letGo wsX9_letGo) := goodIn_app (goodIn_of _ (by decide +kernel)) ggL_law_X9_letGo
set_option maxRecDepth 20000 in
theorem ggL_law_X8_together : GoodIn wsL_law wsX8_together := goodIn_r _ [578, 16, 20, 343, 135, 136, 15, 137, 50, 579, 580, 581, 19, 582, 583, 514, 515, 516, 62, 517, 518, 519, 520, 61, 60, 521, 476, 477, 478, 522, 523, 524, 525, 58, 526, 416, 417, 418, 49, 527, 528, 529, 530, 57, 531, 532, 533, 534, 535, 536, 537, 538, 539, 447, 448, 449, 540, 541, 542, 543, 544, 291, 157, 292, 545, 546, 547, 548, 584, 585, 586, 587, 588, 589, 590, 591, 592, 593, 594, 595, 922, 923, 924, 925, 926, 927, 928, 929, 954, 955, 956, 957, 958, 959, 960, 961, 962, 963, 964, 965] (by decide +kernel) (by decide +kernel)
set_option maxRecDepth 20000 in
theorem gL_law_X8_together : GoodIn wsL_law (wsV RL 73 RX8 yX8_together wsX8_together) := goodIn_app (goodIn_of _ (by decide +kernel)) ggL_law_X8_together
set_option maxRecDepth 20000 in
theorem ggL_law_X9_together : GoodIn wsL_law wsX9_together := goodIn_r _ [599, 163, 112, 111, 363, 364, 365, 5, 366, 169, 170, 171, 553, 554, 555, 556, 427, 428, 429, 430, 108, 104, 105, 106, 431, 432, 433, 434, 109, 435, 436, 437, 930, 931, 932, 933, 934, 935, 936, 937, 938, 939, 940, 941, 942, 943, 944, 945, 946, 947, 948, 949, 950, 951, 952, 953] (by decide +kernel) (by decide +kernel)
set_option maxRecDepth 20000 in
theorem gL_law_X9_together : GoodIn wsL_law (wsV RL 76 RX9 yX9_together wsX9_together) := goodIn_app (goodIn_of _ (by decide +kernel)) ggL_law_X9_together
set_option maxRecDepth 20000 in
theorem ggL_law_X8_span : GoodIn wsL_law wsX8_span := goodIn_r _ [603, 16, 341, 342, 442, 443, 444, 15, 445, 446, 447, 448, 449, 50, 123, 124, 2, 125, 604, 605, 606, 607, 608, 456, 457, 458, 454, 412, 413, 414, 415, 416, 417, 418, 49, 609, 610, 611, 612, 613, 291, 157, 292, 142, 143, 144, 145, 146, 147, 148, 149, 150, 151, 922, 923, 924, 925, 926, 927, 928, 929, 954, 955, 956, 957, 958, 959, 960] (by decide +kernel) (by decide +kernel)
set_option maxRecDepth 20000 in
theorem gL_law_X8_span : GoodIn wsL_law (wsV RL 77 RX8 yX8_span wsX8_span) := goodIn_app (goodIn_of _ (by decide +kernel)) ggL_law_X8_span
set_option maxRecDepth 20000 in
theorem ggL_law_X9_span : GoodIn wsL_law wsX9_span := goodIn_r _ [617, 361, 362, 463, 464, 465, 5, 466, 163, 169, 170, 171, 164, 165, 166, 167, 168, 467, 468, 469, 470, 427, 428, 429, 430, 108, 104, 105, 106, 431, 432, 433, 434, 109, 435, 436, 437, 930, 931, 932, 933, 934, 935, 936, 937, 938, 939, 940, 941, 942, 943, 944, 945, 946, 947, 948, 949, 950, 951, 952, 953] (by decide +kernel) (by decide +kernel)
set_option maxRecDepth 20000 in
theorem gL_law_X9_span : GoodIn wsL_law (wsV RL 80 RX9 yX9_span wsX9_span) := goodIn_app (goodIn_of _ (by decide +kernel)) ggL_law_X9_span
set_option maxRecDepth 20000 in
theorem ggL_law_X8_line : GoodIn wsL_law wsX8_line := goodIn_r _ [621, 16, 341, 622, 623, 157, 624, 342, 442, 443, 444, 15, 445, 446, 447, 448, 449, 50, 625, 626, 627, 628, 46, 47, 613, 291, 292, 922, 923, 924, 925, 926, 927, 928, 929, 954, 955, 956, 957, 958, 959, 960] (by decide +kernel) (by decide +kernel)
set_option maxRecDepth 20000 in
theorem gL_law_X8_line : GoodIn wsL_law (wsV RL 81 RX8 yX8_line wsX8_line) := goodIn_app (goodIn_of _ (by decide +kernel)) ggL_law_X8_line
set_option maxRecDepth 20000 in
theorem ggL_law_X9_line : GoodIn wsL_law wsX9_line := goodIn_r _ [632, 232, 361, 163, 104, 105, 362, 463, 464, 465, 5, 466, 169, 170, 171, 930, 931, 932, 933, 934, 935, 936, 937, 938, 939, 940, 941, 942, 943, 944, 945, 946, 947, 948, 949, 950, 951, 952, 953] (by decide +kernel) (by decide +kernel)
set_option maxRecDepth 20000 in
theorem gL_law_X9_line : GoodIn wsL_law (wsV RL 84 RX9 yX9_line wsX9_line) := goodIn_app (goodIn_of _ (by decide +kernel)) ggL_law_X9_line
