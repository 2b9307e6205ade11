set_option maxRecDepth 20000 in
theorem ggL_law_X9_step : GoodIn wsL_law wsX9_step := goodIn_r _ [810, 506, 164, 165, 5, 166, 167, 168, 169, 170, 171, 811, 812, 813, 814, 114, 780, 781, 109, 435, 436, 437, 748, 749, 750, 815, 816, 817, 745, 746, 747, 926, 927, 928, 929, 930, 931, 932, 933, 934, 935, 936, 937, 938, 939, 940, 941, 942, 943, 944, 945, 946, 947, 948, 949] (by decide +kernel) (by decide +kernel)
set_option maxRecDepth 20000 in
theorem gL_law_X9_step : GoodIn wsL_law (wsV RL 120 RX9 yX9_step wsX9_step) := goodIn_app (goodIn_of _ (by decide +kernel)) ggL_law_X9_step
set_option maxRecDepth 20000 in
theorem ggL_law_X8_holds : GoodIn wsL_law wsX8_holds := goodIn_r _ [821, 341, 36, 822, 823, 824, 35, 825, 92, 826, 827, 828, 829, 93, 918, 919, 920, 921, 922, 923, 924, 925, 978, 979] (by decide +kernel) (by decide +kernel)
set_option maxRecDepth 20000 in
theorem gL_law_X8_holds : GoodIn wsL_law (wsV RL 121 RX8 yX8_holds wsX8_holds) := goodIn_app (goodIn_of _ (by decide +kernel)) ggL_law_X8_holds
set_option maxRecDepth 20000 in
theorem ggL_law_X9_holds : GoodIn wsL_law wsX9_holds := goodIn_r _ [833, 780, 781, 361, 926, 927, 928, 929, 930, 931, 932, 933, 934, 935, 936, 937, 938, 939, 940, 941, 942, 943, 944, 945, 946, 947, 948, 949] (by decide +kernel) (by decide +kernel)
set_option maxRecDepth 20000 in
theorem gL_law_X9_holds : GoodIn wsL_law (wsV RL 124 RX9 yX9_holds wsX9_holds) := goodIn_app (goodIn_of _ (by decide +kernel)) ggL_law_X9_holds
set_option maxRecDepth 20000 in
theorem ggL_law_X8_brake : GoodIn wsL_law wsX8_brake := goodIn_r _ [837, 32, 37, 36, 16, 123, 124, 2, 125, 490, 491, 492, 31, 493, 85, 822, 823, 824, 35, 825, 92, 826, 827, 828, 829, 93, 772, 773, 774, 775, 391, 392, 393, 15, 394, 52, 791, 792, 793, 794, 795, 291, 157, 292, 796, 619, 620, 797, 798, 799, 800, 801, 84, 802, 143, 144, 145, 146, 147, 148, 149, 150, 151, 803, 695, 696, 697, 804, 805, 806, 918, 919, 920, 921, 922, 923, 924, 925, 973, 974, 975, 976, 977, 978, 979, 950, 951, 952, 953, 954, 955, 956] (by decide +kernel) (by decide +kernel)
set_option maxRecDepth 20000 in
theorem gL_law_X8_brake : GoodIn wsL_law (wsV RL 125 RX8 yX8_brake wsX8_brake) := goodIn_app (goodIn_of _ (by decide +kernel)) ggL_law_X8_brake
set_option maxRecDepth 20000 in
theorem ggL_law_X9_brake : GoodIn wsL_law wsX9_brake := goodIn_r _ [841, 842, 506, 780, 781, 164, 165, 5, 166, 167, 168, 169, 170, 171, 782, 783, 784, 785, 786, 811, 812, 813, 814, 114, 109, 435, 436, 437, 748, 749, 750, 815, 816, 817, 745, 746, 747, 926, 927, 928, 929, 930, 931, 932, 933, 934, 935, 936, 937, 938, 939, 940, 941, 942, 943, 944, 945, 946, 947, 948, 949] (by decide +kernel) (by decide +kernel)
set_option maxRecDepth 20000 in
theorem gL_law_X9_brake : GoodIn wsL_law (wsV RL 128 RX9 yX9_brake wsX9_brake) := goodIn_app (goodIn_of _ (by decide +kernel)) ggL_law_X9_brake
set_option maxRecDepth 20000 in
theorem ggL_law_X8_watch : GoodIn wsL_law wsX8_watch := goodIn_r _ [846, 32, 16, 123, 124, 2, 125, 490, 491, 492, 31, 493, 85, 391, 392, 393, 15, 394, 52, 847, 848, 849, 850, 84, 87, 86, 88, 851, 143, 144, 145, 146, 147, 148, 149, 150, 151, 852, 153, 154, 155, 156, 157, 158, 759, 760, 761, 762, 918, 919, 920, 921, 922, 923, 924, 925, 973, 974, 975, 976, 977, 950, 951, 952, 953, 954, 955, 956] (by decide +kernel) (by decide +kernel)
set_option maxRecDepth 20000 in
theorem gL_law_X8_watch : GoodIn wsL_law (wsV RL 129 RX8 yX8_watch wsX8_watch) := goodIn_app (goodIn_of _ (by decide +kernel)) ggL_law_X8_watch
set_option maxRecDepth 20000 in
theorem ggL_law_X9_watch : GoodIn wsL_law wsX9_watch := goodIn_r _ [856, 506, 114, 767, 507, 508, 164, 165, 5, 166, 167, 168, 169, 170, 171, 431, 432, 433, 434, 109, 435, 436, 437, 926, 927, 928, 929, 930, 931, 932, 933, 934, 935, 936, 937, 938, 939, 940, 941, 942, 943, 944, 945, 946, 947, 948, 949] (by decide +kernel) (by decide +kernel)
set_option maxRecDepth 20000 in
theorem gL_law_X9_watch : GoodIn wsL_law (wsV RL 132 RX9 yX9_watch wsX9_watch) := goodIn_app (goodIn_of _ (by decide +kernel)) ggL_law_X9_watch
set_option maxRecDepth 20000 in
theorem ggL_law_X8_sheet : GoodIn wsL_law wsX8_sheet := goodIn_r _ [860, 188, 189, 190, 2, 191, 39, 192, 193, 194, 861, 862, 863, 41, 864, 98, 865, 291, 157, 292, 866, 619, 620, 99, 97, 867, 376, 377, 378, 918, 919, 920, 921, 922, 923, 924, 925, 980, 981, 982] (by decide +kernel) (by decide +kernel)
set_option maxRecDepth 20000 in
theorem gL_law_X8_sheet : GoodIn wsL_law (wsV RL 133 RX8 yX8_sheet wsX8_sheet) := goodIn_app (goodIn_of _ (by decide +kernel)) ggL_law_X8_sheet
set_option maxRecDepth 20000 in
theorem ggL_law_X9_sheet : GoodIn wsL_law wsX9_sheet := goodIn_r _ [871, 115, 116, 117, 225, 226, 5, 227, 228, 169, 170, 171, 229, 230, 231, 232, 926, 927, 928, 929, 930, 931, 932, 933, 934, 935, 936, 937, 938, 939, 940, 941, 942, 943, 944, 945, 946, 947, 948, 949] (by decide +kernel) (by decide +kernel)
set_option maxRecDepth 20000 in
theorem gL_law_X9_sheet : GoodIn wsL_law (wsV RL 136 RX9 yX9_sheet wsX9_sheet) := goodIn_app (goodIn_of _ (by decide +kernel)) ggL_law_X9_sheet
set_option maxRecDepth 20000 in
theorem ggL_law_X8_drop : GoodIn wsL_law wsX8_drop := goodIn_r _ [875, 188, 189, 190, 2, 191, 39, 876, 200, 201, 41, 202, 98, 877, 878, 879, 880, 99, 918, 919, 920, 921, 922, 923, 924, 925, 980, 981, 982] (by decide +kernel) (by decide +kernel)
set_option maxRecDepth 20000 in
theorem gL_law_X8_drop : GoodIn wsL_law (wsV RL 137 RX8 yX8_drop wsX8_drop) := goodIn_app (goodIn_of _ (by decide +kernel)) ggL_law_X8_drop
set_option maxRecDepth 20000 in
theorem ggL_law_X9_drop : GoodIn wsL_law wsX9_drop := goodIn_r _ [884, 115, 116, 225, 226, 5, 227, 228, 169, 170, 171, 926, 927, 928, 929, 930, 931, 932, 933, 934, 935, 936, 937, 938, 939, 940, 941, 942, 943, 944, 945, 946, 947, 948, 949] (by decide +kernel) (by decide +kernel)
set_option maxRecDepth 20000 in
theorem gL_law_X9_drop : GoodIn wsL_law (wsV RL 140 RX9 yX9_drop wsX9_drop) := goodIn_app (goodIn_of _ (by decide +kernel)) ggL_law_X9_drop
set_option maxRecDepth 20000 in
theorem ggL_law_X8_item : GoodIn wsL_law wsX8_item := goodIn_r _ [888, 188, 189, 190, 2, 191, 39, 192, 193, 194, 195, 196, 197, 41, 198, 98, 199, 200, 201, 202, 203, 204, 205, 206, 99, 889, 890, 891, 892, 97, 918, 919, 920, 921, 922, 923, 924, 925, 980, 981, 982] (by decide +kernel) (by decide +kernel)
set_option maxRecDepth 20000 in
theorem gL_law_X8_item : GoodIn wsL_law (wsV RL 141 RX8 yX8_item wsX8_item) := goodIn_app (goodIn_of _ (by decide +kernel)) ggL_law_X8_item
set_option maxRecDepth 20000 in
theorem ggL_law_X9_item : GoodIn wsL_law wsX9_item := goodIn_r _ [896, 117, 225, 226, 5, 227, 228, 169, 170, 171, 229, 230, 231, 232, 233, 234, 235, 236, 115, 116, 926, 927, 928, 929, 930, 931, 932, 933, 934, 935, 936, 937, 938, 939, 940, 941, 942, 943, 944, 945, 946, 947, 948, 949] (by decide +kernel) (by decide +kernel)
set_option maxRecDepth 20000 in
theorem gL_law_X9_item : GoodIn wsL_law (wsV RL 144 RX9 yX9_item wsX9_item) := goodIn_app (goodIn_of _ (by decide +kernel)) ggL_law_X9_item
set_option maxRecDepth 20000 in
theorem ggL_law_X8_copy : GoodIn wsL_law wsX8_copy := goodIn_r _ [900, 188, 189, 190, 2, 191, 39, 876, 200, 201, 41, 202, 98, 901, 902, 903, 904, 905, 204, 205, 206, 99, 906, 907, 908, 909, 97, 910, 911, 912, 913, 203, 918, 919, 920, 921, 922, 923, 924, 925, 980, 981, 982] (by decide +kernel) (by decide +kernel)
set_option maxRecDepth 20000 in
theorem gL_law_X8_copy : GoodIn wsL_law (wsV RL 145 RX8 yX8_copy wsX8_copy) := goodIn_app (goodIn_of _ (by decide +kernel)) ggL_law_X8_copy
set_option maxRecDepth 20000 in
theorem ggL_law_X9_copy : GoodIn wsL_law wsX9_copy := goodIn_r _ [917, 115, 118, 117, 225, 226, 5, 227, 228, 169, 170, 171, 233, 234, 235, 236, 116, 926, 927, 928, 929, 930, 931, 932, 933, 934, 935, 936, 937, 938, 939, 940, 941, 942, 943, 944, 945, 946, 947, 948, 949] (by decide +kernel) (by decide +kernel)
set_option maxRecDepth 20000 in
theorem gL_law_X9_copy : GoodIn wsL_law (wsV RL 149 RX9 yX9_copy wsX9_copy) := goodIn_app (goodIn_of _ (by decide +kernel)) ggL_law_X9_copy
