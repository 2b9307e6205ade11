set_option maxRecDepth 20000 in
theorem ggL_law_X9_step : GoodIn wsL_law wsX9_step := goodIn_r _ [814, 506, 164, 165, 5, 166, 167, 168, 169, 170, 171, 815, 816, 817, 818, 114, 784, 785, 109, 435, 436, 437, 752, 753, 754, 819, 820, 821, 749, 750, 751, 930, 931, 932, 933, 934, 935, 936, 937, 938, 939, 940, 941, 942, 943, 944, 945, 946, 947, 948, 949, 950, 951, 952, 953] (by decide +kernel) (by decide +kernel)
set_option maxRecDepth 20000 in
theorem gL_law_X9_step : GoodIn wsL_law (wsV RL 120 RX9 yX9_step wsX9_step) := goodIn_app (goodIn_of _ (by decide +kernel)) ggL_law_X9_step
set_option maxRecDepth 20000 in
theorem ggL_law_X8_holds : GoodIn wsL_law wsX8_holds := goodIn_r _ [825, 341, 36, 826, 827, 828, 35, 829, 92, 830, 831, 832, 833, 93, 922, 923, 924, 925, 926, 927, 928, 929, 982, 983] (by decide +kernel) (by decide +kernel)
set_option maxRecDepth 20000 in
theorem gL_law_X8_holds : GoodIn wsL_law (wsV RL 121 RX8 yX8_holds wsX8_holds) := goodIn_app (goodIn_of _ (by decide +kernel)) ggL_law_X8_holds
set_option maxRecDepth 20000 in
theorem ggL_law_X9_holds : GoodIn wsL_law wsX9_holds := goodIn_r _ [837, 784, 785, 361, 930, 931, 932, 933, 934, 935, 936, 937, 938, 939, 940, 941, 942, 943, 944, 945, 946, 947, 948, 949, 950, 951, 952, 953] (by decide +kernel) (by decide +kernel)
set_option maxRecDepth 20000 in
theorem gL_law_X9_holds : GoodIn wsL_law (wsV RL 124 RX9 yX9_holds wsX9_holds) := goodIn_app (goodIn_of _ (by decide +kernel)) ggL_law_X9_holds
set_option maxRecDepth 20000 in
theorem ggL_law_X8_brake : GoodIn wsL_law wsX8_brake := goodIn_r _ [841, 32, 37, 36, 16, 123, 124, 2, 125, 490, 491, 492, 31, 493, 85, 826, 827, 828, 35, 829, 92, 830, 831, 832, 833, 93, 776, 777, 778, 779, 391, 392, 393, 15, 394, 52, 795, 796, 797, 798, 799, 291, 157, 292, 800, 623, 624, 801, 802, 803, 804, 805, 84, 806, 143, 144, 145, 146, 147, 148, 149, 150, 151, 807, 699, 700, 701, 808, 809, 810, 922, 923, 924, 925, 926, 927, 928, 929, 977, 978, 979, 980, 981, 982, 983, 954, 955, 956, 957, 958, 959, 960] (by decide +kernel) (by decide +kernel)
set_option maxRecDepth 20000 in
theorem gL_law_X8_brake : GoodIn wsL_law (wsV RL 125 RX8 yX8_brake wsX8_brake) := goodIn_app (goodIn_of _ (by decide +kernel)) ggL_law_X8_brake
set_option maxRecDepth 20000 in
theorem ggL_law_X9_brake : GoodIn wsL_law wsX9_brake := goodIn_r _ [845, 846, 506, 784, 785, 164, 165, 5, 166, 167, 168, 169, 170, 171, 786, 787, 788, 789, 790, 815, 816, 817, 818, 114, 109, 435, 436, 437, 752, 753, 754, 819, 820, 821, 749, 750, 751, 930, 931, 932, 933, 934, 935, 936, 937, 938, 939, 940, 941, 942, 943, 944, 945, 946, 947, 948, 949, 950, 951, 952, 953] (by decide +kernel) (by decide +kernel)
set_option maxRecDepth 20000 in
theorem gL_law_X9_brake : GoodIn wsL_law (wsV RL 128 RX9 yX9_brake wsX9_brake) := goodIn_app (goodIn_of _ (by decide +kernel)) ggL_law_X9_brake
set_option maxRecDepth 20000 in
theorem ggL_law_X8_watch : GoodIn wsL_law wsX8_watch := goodIn_r _ [850, 32, 16, 123, 124, 2, 125, 490, 491, 492, 31, 493, 85, 391, 392, 393, 15, 394, 52, 851, 852, 853, 854, 84, 87, 86, 88, 855, 143, 144, 145, 146, 147, 148, 149, 150, 151, 856, 153, 154, 155, 156, 157, 158, 763, 764, 765, 766, 922, 923, 924, 925, 926, 927, 928, 929, 977, 978, 979, 980, 981, 954, 955, 956, 957, 958, 959, 960] (by decide +kernel) (by decide +kernel)
set_option maxRecDepth 20000 in
theorem gL_law_X8_watch : GoodIn wsL_law (wsV RL 129 RX8 yX8_watch wsX8_watch) := goodIn_app (goodIn_of _ (by decide +kernel)) ggL_law_X8_watch
set_option maxRecDepth 20000 in
theorem ggL_law_X9_watch : GoodIn wsL_law wsX9_watch := goodIn_r _ [860, 506, 114, 771, 507, 508, 164, 165, 5, 166, 167, 168, 169, 170, 171, 431, 432, 433, 434, 109, 435, 436, 437, 930, 931, 932, 933, 934, 935, 936, 937, 938, 939, 940, 941, 942, 943, 944, 945, 946, 947, 948, 949, 950, 951, 952, 953] (by decide +kernel) (by decide +kernel)
set_option maxRecDepth 20000 in
theorem gL_law_X9_watch : GoodIn wsL_law (wsV RL 132 RX9 yX9_watch wsX9_watch) := goodIn_app (goodIn_of _ (by decide +kernel)) ggL_law_X9_watch
set_option maxRecDepth 20000 in
theorem ggL_law_X8_sheet : GoodIn wsL_law wsX8_sheet := goodIn_r _ [864, 188, 189, 190, 2, 191, 39, 192, 193, 194, 865, 866, 867, 41, 868, 98, 869, 291, 157, 292, 870, 623, 624, 99, 97, 871, 376, 377, 378, 922, 923, 924, 925, 926, 927, 928, 929, 984, 985, 986] (by decide +kernel) (by decide +kernel)
set_option maxRecDepth 20000 in
theorem gL_law_X8_sheet : GoodIn wsL_law (wsV RL 133 RX8 yX8_sheet wsX8_sheet) := goodIn_app (goodIn_of _ (by decide +kernel)) ggL_law_X8_sheet
set_option maxRecDepth 20000 in
theorem ggL_law_X9_sheet : GoodIn wsL_law wsX9_sheet := goodIn_r _ [875, 115, 116, 117, 225, 226, 5, 227, 228, 169, 170, 171, 229, 230, 231, 232, 930, 931, 932, 933, 934, 935, 936, 937, 938, 939, 940, 941, 942, 943, 944, 945, 946, 947, 948, 949, 950, 951, 952, 953] (by decide +kernel) (by decide +kernel)
set_option maxRecDepth 20000 in
theorem gL_law_X9_sheet : GoodIn wsL_law (wsV RL 136 RX9 yX9_sheet wsX9_sheet) := goodIn_app (goodIn_of _ (by decide +kernel)) ggL_law_X9_sheet
set_option maxRecDepth 20000 in
theorem ggL_law_X8_drop : GoodIn wsL_law wsX8_drop := goodIn_r _ [879, 188, 189, 190, 2, 191, 39, 880, 200, 201, 41, 202, 98, 881, 882, 883, 884, 99, 922, 923, 924, 925, 926, 927, 928, 929, 984, 985, 986] (by decide +kernel) (by decide +kernel)
set_option maxRecDepth 20000 in
theorem gL_law_X8_drop : GoodIn wsL_law (wsV RL 137 RX8 yX8_drop wsX8_drop) := goodIn_app (goodIn_of _ (by decide +kernel)) ggL_law_X8_drop
set_option maxRecDepth 20000 in
theorem ggL_law_X9_drop : GoodIn wsL_law wsX9_drop := goodIn_r _ [888, 115, 116, 225, 226, 5, 227, 228, 169, 170, 171, 930, 931, 932, 933, 934, 935, 936, 937, 938, 939, 940, 941, 942, 943, 944, 945, 946, 947, 948, 949, 950, 951, 952, 953] (by decide +kernel) (by decide +kernel)
set_option maxRecDepth 20000 in
theorem gL_law_X9_drop : GoodIn wsL_law (wsV RL 140 RX9 yX9_drop wsX9_drop) := goodIn_app (goodIn_of _ (by decide +kernel)) ggL_law_X9_drop
set_option maxRecDepth 20000 in
theorem ggL_law_X8_item : GoodIn wsL_law wsX8_item := goodIn_r _ [892, 188, 189, 190, 2, 191, 39, 192, 193, 194, 195, 196, 197, 41, 198, 98, 199, 200, 201, 202, 203, 204, 205, 206, 99, 893, 894, 895, 896, 97, 922, 923, 924, 925, 926, 927, 928, 929, 984, 985, 986] (by decide +kernel) (by decide +kernel)
set_option maxRecDepth 20000 in
theorem gL_law_X8_item : GoodIn wsL_law (wsV RL 141 RX8 yX8_item wsX8_item) := goodIn_app (goodIn_of _ (by decide +kernel)) ggL_law_X8_item
set_option maxRecDepth 20000 in
theorem ggL_law_X9_item : GoodIn wsL_law wsX9_item := goodIn_r _ [900, 117, 225, 226, 5, 227, 228, 169, 170, 171, 229, 230, 231, 232, 233, 234, 235, 236, 115, 116, 930, 931, 932, 933, 934, 935, 936, 937, 938, 939, 940, 941, 942, 943, 944, 945, 946, 947, 948, 949, 950, 951, 952, 953] (by decide +kernel) (by decide +kernel)
set_option maxRecDepth 20000 in
theorem gL_law_X9_item : GoodIn wsL_law (wsV RL 144 RX9 yX9_item wsX9_item) := goodIn_app (goodIn_of _ (by decide +kernel)) ggL_law_X9_item
set_option maxRecDepth 20000 in
theorem ggL_law_X8_copy : GoodIn wsL_law wsX8_copy := goodIn_r _ [904, 188, 189, 190, 2, 191, 39, 880, 200, 201, 41, 202, 98, 905, 906, 907, 908, 909, 204, 205, 206, 99, 910, 911, 912, 913, 97, 914, 915, 916, 917, 203, 922, 923, 924, 925, 926, 927, 928, 929, 984, 985, 986] (by decide +kernel) (by decide +kernel)
set_option maxRecDepth 20000 in
theorem gL_law_X8_copy : GoodIn wsL_law (wsV RL 145 RX8 yX8_copy wsX8_copy) := goodIn_app (goodIn_of _ (by decide +kernel)) ggL_law_X8_copy
set_option maxRecDepth 20000 in
theorem ggL_law_X9_copy : GoodIn wsL_law wsX9_copy := goodIn_r _ [921, 115, 118, 117, 225, 226, 5, 227, 228, 169, 170, 171, 233, 234, 235, 236, 116, 930, 931, 932, 933, 934, 935, 936, 937, 938, 939, 940, 941, 942, 943, 944, 945, 946, 947, 948, 949, 950, 951, 952, 953] (by decide +kernel) (by decide +kernel)
set_option maxRecDepth 20000 in
theorem gL_law_X9_copy : GoodIn wsL_law (wsV RL 149 RX9 yX9_copy wsX9_copy) := goodIn_app (goodIn_of _ (by decide +kernel)) ggL_law_X9_copy
