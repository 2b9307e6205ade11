set_option maxRecDepth 20000 in
theorem ggL_law_X9_step : GoodIn wsL_law wsX9_step := goodIn_r _ [809, 502, 160, 161, 5, 162, 163, 164, 165, 166, 167, 810, 811, 812, 813, 110, 779, 780, 105, 431, 432, 433, 747, 748, 749, 814, 815, 816, 744, 745, 746, 925, 926, 927, 928, 929, 930, 931, 932, 933, 934, 935, 936, 937, 938, 939, 940, 941, 942, 943, 944, 945, 946, 947, 948] (by decide +kernel) (by decide +kernel)
set_option maxRecDepth 20000 in
theorem gL_law_X9_step : GoodIn wsL_law (wsV RL 120 RX9 yX9_step wsX9_step) := goodIn_app (goodIn_of _ (by decide +kernel)) ggL_law_X9_step
set_option maxRecDepth 20000 in
theorem ggL_law_X8_holds : GoodIn wsL_law wsX8_holds := goodIn_r _ [820, 337, 36, 821, 822, 823, 35, 824, 88, 825, 826, 827, 828, 89, 917, 918, 919, 920, 921, 922, 923, 924, 975, 976] (by decide +kernel) (by decide +kernel)
set_option maxRecDepth 20000 in
theorem gL_law_X8_holds : GoodIn wsL_law (wsV RL 121 RX8 yX8_holds wsX8_holds) := goodIn_app (goodIn_of _ (by decide +kernel)) ggL_law_X8_holds
set_option maxRecDepth 20000 in
theorem ggL_law_X9_holds : GoodIn wsL_law wsX9_holds := goodIn_r _ [832, 779, 780, 357, 925, 926, 927, 928, 929, 930, 931, 932, 933, 934, 935, 936, 937, 938, 939, 940, 941, 942, 943, 944, 945, 946, 947, 948] (by decide +kernel) (by decide +kernel)
set_option maxRecDepth 20000 in
theorem gL_law_X9_holds : GoodIn wsL_law (wsV RL 124 RX9 yX9_holds wsX9_holds) := goodIn_app (goodIn_of _ (by decide +kernel)) ggL_law_X9_holds
set_option maxRecDepth 20000 in
theorem ggL_law_X8_brake : GoodIn wsL_law wsX8_brake := goodIn_r _ [836, 32, 37, 36, 16, 119, 120, 2, 121, 486, 487, 488, 31, 489, 81, 821, 822, 823, 35, 824, 88, 825, 826, 827, 828, 89, 771, 772, 773, 774, 387, 388, 389, 15, 390, 52, 790, 791, 792, 793, 794, 287, 153, 288, 795, 619, 620, 796, 797, 798, 799, 800, 80, 801, 139, 140, 141, 142, 143, 144, 145, 146, 147, 802, 694, 695, 696, 803, 804, 805, 917, 918, 919, 920, 921, 922, 923, 924, 970, 971, 972, 973, 974, 975, 976, 949, 950, 951, 952, 953, 954, 955] (by decide +kernel) (by decide +kernel)
set_option maxRecDepth 20000 in
theorem gL_law_X8_brake : GoodIn wsL_law (wsV RL 125 RX8 yX8_brake wsX8_brake) := goodIn_app (goodIn_of _ (by decide +kernel)) ggL_law_X8_brake
set_option maxRecDepth 20000 in
theorem ggL_law_X9_brake : GoodIn wsL_law wsX9_brake := goodIn_r _ [840, 841, 502, 779, 780, 160, 161, 5, 162, 163, 164, 165, 166, 167, 781, 782, 783, 784, 785, 810, 811, 812, 813, 110, 105, 431, 432, 433, 747, 748, 749, 814, 815, 816, 744, 745, 746, 925, 926, 927, 928, 929, 930, 931, 932, 933, 934, 935, 936, 937, 938, 939, 940, 941, 942, 943, 944, 945, 946, 947, 948] (by decide +kernel) (by decide +kernel)
set_option maxRecDepth 20000 in
theorem gL_law_X9_brake : GoodIn wsL_law (wsV RL 128 RX9 yX9_brake wsX9_brake) := goodIn_app (goodIn_of _ (by decide +kernel)) ggL_law_X9_brake
set_option maxRecDepth 20000 in
theorem ggL_law_X8_watch : GoodIn wsL_law wsX8_watch := goodIn_r _ [845, 32, 16, 119, 120, 2, 121, 486, 487, 488, 31, 489, 81, 387, 388, 389, 15, 390, 52, 846, 847, 848, 849, 80, 83, 82, 84, 850, 139, 140, 141, 142, 143, 144, 145, 146, 147, 851, 149, 150, 151, 152, 153, 154, 758, 759, 760, 761, 917, 918, 919, 920, 921, 922, 923, 924, 970, 971, 972, 973, 974, 949, 950, 951, 952, 953, 954, 955] (by decide +kernel) (by decide +kernel)
set_option maxRecDepth 20000 in
theorem gL_law_X8_watch : GoodIn wsL_law (wsV RL 129 RX8 yX8_watch wsX8_watch) := goodIn_app (goodIn_of _ (by decide +kernel)) ggL_law_X8_watch
set_option maxRecDepth 20000 in
theorem ggL_law_X9_watch : GoodIn wsL_law wsX9_watch := goodIn_r _ [855, 502, 110, 766, 503, 504, 160, 161, 5, 162, 163, 164, 165, 166, 167, 427, 428, 429, 430, 105, 431, 432, 433, 925, 926, 927, 928, 929, 930, 931, 932, 933, 934, 935, 936, 937, 938, 939, 940, 941, 942, 943, 944, 945, 946, 947, 948] (by decide +kernel) (by decide +kernel)
set_option maxRecDepth 20000 in
theorem gL_law_X9_watch : GoodIn wsL_law (wsV RL 132 RX9 yX9_watch wsX9_watch) := goodIn_app (goodIn_of _ (by decide +kernel)) ggL_law_X9_watch
set_option maxRecDepth 20000 in
theorem ggL_law_X8_sheet : GoodIn wsL_law wsX8_sheet := goodIn_r _ [859, 184, 185, 186, 2, 187, 39, 188, 189, 190, 860, 861, 862, 41, 863, 94, 864, 287, 153, 288, 865, 619, 620, 95, 93, 866, 372, 373, 374, 917, 918, 919, 920, 921, 922, 923, 924, 977, 978, 979] (by decide +kernel) (by decide +kernel)
set_option maxRecDepth 20000 in
theorem gL_law_X8_sheet : GoodIn wsL_law (wsV RL 133 RX8 yX8_sheet wsX8_sheet) := goodIn_app (goodIn_of _ (by decide +kernel)) ggL_law_X8_sheet
set_option maxRecDepth 20000 in
theorem ggL_law_X9_sheet : GoodIn wsL_law wsX9_sheet := goodIn_r _ [870, 111, 112, 113, 221, 222, 5, 223, 224, 165, 166, 167, 225, 226, 227, 228, 925, 926, 927, 928, 929, 930, 931, 932, 933, 934, 935, 936, 937, 938, 939, 940, 941, 942, 943, 944, 945, 946, 947, 948] (by decide +kernel) (by decide +kernel)
set_option maxRecDepth 20000 in
theorem gL_law_X9_sheet : GoodIn wsL_law (wsV RL 136 RX9 yX9_sheet wsX9_sheet) := goodIn_app (goodIn_of _ (by decide +kernel)) ggL_law_X9_sheet
set_option maxRecDepth 20000 in
theorem ggL_law_X8_drop : GoodIn wsL_law wsX8_drop := goodIn_r _ [874, 184, 185, 186, 2, 187, 39, 875, 196, 197, 41, 198, 94, 876, 877, 878, 879, 95, 917, 918, 919, 920, 921, 922, 923, 924, 977, 978, 979] (by decide +kernel) (by decide +kernel)
set_option maxRecDepth 20000 in
theorem gL_law_X8_drop : GoodIn wsL_law (wsV RL 137 RX8 yX8_drop wsX8_drop) := goodIn_app (goodIn_of _ (by decide +kernel)) ggL_law_X8_drop
set_option maxRecDepth 20000 in
theorem ggL_law_X9_drop : GoodIn wsL_law wsX9_drop := goodIn_r _ [883, 111, 112, 221, 222, 5, 223, 224, 165, 166, 167, 925, 926, 927, 928, 929, 930, 931, 932, 933, 934, 935, 936, 937, 938, 939, 940, 941, 942, 943, 944, 945, 946, 947, 948] (by decide +kernel) (by decide +kernel)
set_option maxRecDepth 20000 in
theorem gL_law_X9_drop : GoodIn wsL_law (wsV RL 140 RX9 yX9_drop wsX9_drop) := goodIn_app (goodIn_of _ (by decide +kernel)) ggL_law_X9_drop
set_option maxRecDepth 20000 in
theorem ggL_law_X8_item : GoodIn wsL_law wsX8_item := goodIn_r _ [887, 184, 185, 186, 2, 187, 39, 188, 189, 190, 191, 192, 193, 41, 194, 94, 195, 196, 197, 198, 199, 200, 201, 202, 95, 888, 889, 890, 891, 93, 917, 918, 919, 920, 921, 922, 923, 924, 977, 978, 979] (by decide +kernel) (by decide +kernel)
set_option maxRecDepth 20000 in
theorem gL_law_X8_item : GoodIn wsL_law (wsV RL 141 RX8 yX8_item wsX8_item) := goodIn_app (goodIn_of _ (by decide +kernel)) ggL_law_X8_item
set_option maxRecDepth 20000 in
theorem ggL_law_X9_item : GoodIn wsL_law wsX9_item := goodIn_r _ [895, 113, 221, 222, 5, 223, 224, 165, 166, 167, 225, 226, 227, 228, 229, 230, 231, 232, 111, 112, 925, 926, 927, 928, 929, 930, 931, 932, 933, 934, 935, 936, 937, 938, 939, 940, 941, 942, 943, 944, 945, 946, 947, 948] (by decide +kernel) (by decide +kernel)
set_option maxRecDepth 20000 in
theorem gL_law_X9_item : GoodIn wsL_law (wsV RL 144 RX9 yX9_item wsX9_item) := goodIn_app (goodIn_of _ (by decide +kernel)) ggL_law_X9_item
set_option maxRecDepth 20000 in
theorem ggL_law_X8_copy : GoodIn wsL_law wsX8_copy := goodIn_r _ [899, 184, 185, 186, 2, 187, 39, 875, 196, 197, 41, 198, 94, 900, 901, 902, 903, 904, 200, 201, 202, 95, 905, 906, 907, 908, 93, 909, 910, 911, 912, 199, 917, 918, 919, 920, 921, 922, 923, 924, 977, 978, 979] (by decide +kernel) (by decide +kernel)
set_option maxRecDepth 20000 in
theorem gL_law_X8_copy : GoodIn wsL_law (wsV RL 145 RX8 yX8_copy wsX8_copy) := goodIn_app (goodIn_of _ (by decide +kernel)) ggL_law_X8_copy
set_option maxRecDepth 20000 in
theorem ggL_law_X9_copy : GoodIn wsL_law wsX9_copy := goodIn_r _ [916, 111, 114, 113, 221, 222, 5, 223, 224, 165, 166, 167, 229, 230, 231, 232, 112, 925, 926, 927, 928, 929, 930, 931, 932, 933, 934, 935, 936, 937, 938, 939, 940, 941, 942, 943, 944, 945, 946, 947, 948] (by decide +kernel) (by decide +kernel)
set_option maxRecDepth 20000 in
theorem gL_law_X9_copy : GoodIn wsL_law (wsV RL 149 RX9 yX9_copy wsX9_copy) := goodIn_app (goodIn_of _ (by decide +kernel)) ggL_law_X9_copy
