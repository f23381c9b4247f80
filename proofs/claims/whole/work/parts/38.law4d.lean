set_option maxRecDepth 20000 in
theorem ggL_law_X6_ask : GoodIn wsL_law wsX6_ask := goodIn_r _ [834, 91, 669, 529, 530, 531, 5, 532, 147, 148, 149, 150, 151, 152, 153, 97, 822, 823, 824, 825, 445, 446, 447, 448, 449, 450, 451, 452, 453, 802, 803, 804, 984, 985, 986, 987, 988, 989, 990, 991, 992, 993, 994, 995, 996, 997] (by decide +kernel) (by decide +kernel)
set_option maxRecDepth 20000 in
theorem gL_law_X6_ask : GoodIn wsL_law (wsV RL 117 RX6 yX6_ask wsX6_ask) := goodIn_app (goodIn_of _ (by decide +kernel)) ggL_law_X6_ask
set_option maxRecDepth 20000 in
theorem ggL_law_X5_captains : GoodIn wsL_law wsX5_captains := goodIn_r _ [838, 15, 113, 114, 121, 122, 123, 2, 124, 20, 118, 119, 120, 839, 840, 841, 842, 519, 37, 597, 598, 599, 600, 32, 158, 520, 537, 359, 360, 361, 31, 362, 133, 134, 57, 135, 136, 54, 363, 364, 365, 366, 55, 56, 601, 602, 603, 604, 340, 329, 330, 331, 336, 337, 338, 339, 341, 342, 343, 63, 64, 65, 344, 218, 219, 345, 346, 347, 348, 349, 350, 351, 352, 353, 354, 355, 356, 357, 358, 843, 844, 845, 846, 970, 971, 972, 973, 974, 975, 976, 977, 978, 979, 980, 981, 982, 983, 998, 999, 1000, 1001, 1002, 1013, 1014, 1015, 1016, 1017, 1018, 1019, 1020] (by decide +kernel) (by decide +kernel)
set_option maxRecDepth 20000 in
theorem gL_law_X5_captains : GoodIn wsL_law (wsV RL 118 RX5 yX5_captains wsX5_captains) := goodIn_app (goodIn_of _ (by decide +kernel)) ggL_law_X5_captains
set_option maxRecDepth 20000 in
theorem ggL_law_X6_captains : GoodIn wsL_law wsX6_captains := goodIn_r _ [850, 91, 100, 150, 151, 152, 5, 153, 97, 610, 611, 612, 613, 614, 615, 616, 617, 618, 619, 620, 621, 185, 186, 187, 188, 423, 424, 425, 426, 427, 428, 429, 430, 431, 432, 433, 434, 435, 436, 437, 438, 439, 440, 441, 442, 443, 444, 445, 446, 447, 448, 449, 450, 451, 452, 453, 147, 148, 149, 454, 455, 456, 457, 851, 852, 853, 854, 984, 985, 986, 987, 988, 989, 990, 991, 992, 993, 994, 995, 996, 997] (by decide +kernel) (by decide +kernel)
set_option maxRecDepth 20000 in
theorem gL_law_X6_captains : GoodIn wsL_law (wsV RL 121 RX6 yX6_captains wsX6_captains) := goodIn_app (goodIn_of _ (by decide +kernel)) ggL_law_X6_captains
set_option maxRecDepth 20000 in
theorem ggL_law_X5_days : GoodIn wsL_law wsX5_days := goodIn_r _ [858, 859, 32, 15, 113, 860, 861, 862, 863, 864, 118, 119, 2, 120, 121, 122, 123, 124, 20, 359, 360, 361, 31, 362, 133, 134, 57, 135, 136, 54, 363, 364, 365, 366, 55, 56, 479, 329, 330, 331, 501, 333, 334, 335, 336, 337, 338, 339, 340, 341, 342, 343, 63, 64, 65, 344, 218, 219, 345, 346, 347, 348, 349, 350, 351, 352, 353, 354, 355, 356, 357, 358, 970, 971, 972, 973, 974, 975, 976, 977, 978, 979, 980, 981, 982, 983, 998, 999, 1000, 1001, 1002, 1013, 1014, 1015, 1016, 1017, 1018, 1019, 1020] (by decide +kernel) (by decide +kernel)
set_option maxRecDepth 20000 in
theorem gL_law_X5_days : GoodIn wsL_law (wsV RL 122 RX5 yX5_days wsX5_days) := goodIn_app (goodIn_of _ (by decide +kernel)) ggL_law_X5_days
set_option maxRecDepth 20000 in
theorem ggL_law_X6_days : GoodIn wsL_law wsX6_days := goodIn_r _ [868, 869, 870, 871, 872, 873, 874, 875, 147, 148, 5, 149, 150, 151, 152, 153, 97, 610, 611, 612, 613, 91, 185, 186, 187, 188, 423, 424, 425, 426, 427, 428, 429, 430, 431, 432, 433, 434, 435, 436, 437, 438, 439, 440, 441, 442, 443, 444, 445, 446, 447, 448, 449, 450, 451, 452, 453, 454, 455, 456, 457, 984, 985, 986, 987, 988, 989, 990, 991, 992, 993, 994, 995, 996, 997] (by decide +kernel) (by decide +kernel)
set_option maxRecDepth 20000 in
theorem gL_law_X6_days : GoodIn wsL_law (wsV RL 125 RX6 yX6_days wsX6_days) := goodIn_app (goodIn_of _ (by decide +kernel)) ggL_law_X6_days
set_option maxRecDepth 20000 in
theorem ggL_law_X5_part : GoodIn wsL_law wsX5_part := goodIn_r _ [879, 700, 19, 118, 119, 2, 120, 121, 122, 123, 124, 20, 970, 971, 972, 973, 974, 975, 976, 977, 978, 979, 980, 981, 982, 983] (by decide +kernel) (by decide +kernel)
set_option maxRecDepth 20000 in
theorem gL_law_X5_part : GoodIn wsL_law (wsV RL 126 RX5 yX5_part wsX5_part) := goodIn_app (goodIn_of _ (by decide +kernel)) ggL_law_X5_part
set_option maxRecDepth 20000 in
theorem ggL_law_X6_part : GoodIn wsL_law wsX6_part := goodIn_r _ [883, 95, 96, 150, 151, 152, 5, 153, 97, 984, 985, 986, 987, 988, 989, 990, 991, 992, 993, 994, 995, 996, 997] (by decide +kernel) (by decide +kernel)
set_option maxRecDepth 20000 in
theorem gL_law_X6_part : GoodIn wsL_law (wsV RL 130 RX6 yX6_part wsX6_part) := goodIn_app (goodIn_of _ (by decide +kernel)) ggL_law_X6_part
set_option maxRecDepth 20000 in
theorem ggL_law_X5_image : GoodIn wsL_law wsX5_image := goodIn_r _ [887, 16, 12, 13, 14, 15, 888, 889, 2, 890, 118, 119, 120, 121, 122, 123, 124, 20, 38, 39, 40, 41, 10, 11, 42, 30, 31, 43, 17, 44, 45, 46, 47, 48, 49, 50, 51, 52, 53, 54, 55, 56, 57, 58, 59, 60, 61, 62, 63, 64, 65, 66, 67, 68, 69, 70, 71, 891, 892, 893, 894, 895, 364, 365, 366, 896, 360, 361, 362, 133, 134, 135, 136, 363, 897, 898, 899, 900, 141, 901, 218, 219, 496, 970, 971, 972, 973, 974, 975, 976, 977, 978, 979, 980, 981, 982, 983, 998, 999, 1000, 1001, 1002, 1013, 1014, 1015, 1016, 1017, 1018, 1019, 1020, 1021, 1022, 1023] (by decide +kernel) (by decide +kernel)
set_option maxRecDepth 20000 in
theorem gL_law_X5_image : GoodIn wsL_law (wsV RL 131 RX5 yX5_image wsX5_image) := goodIn_app (goodIn_of _ (by decide +kernel)) ggL_law_X5_image
set_option maxRecDepth 20000 in
theorem ggL_law_X6_image : GoodIn wsL_law wsX6_image := goodIn_r _ [905, 93, 147, 148, 5, 149, 150, 151, 152, 153, 97, 466, 467, 468, 469, 91, 984, 985, 986, 987, 988, 989, 990, 991, 992, 993, 994, 995, 996, 997] (by decide +kernel) (by decide +kernel)
set_option maxRecDepth 20000 in
theorem gL_law_X6_image : GoodIn wsL_law (wsV RL 134 RX6 yX6_image wsX6_image) := goodIn_app (goodIn_of _ (by decide +kernel)) ggL_law_X6_image
set_option maxRecDepth 20000 in
theorem ggL_law_X5_from : GoodIn wsL_law wsX5_from := goodIn_r _ [909, 16, 15, 888, 889, 2, 890, 118, 119, 120, 121, 122, 123, 124, 20, 891, 892, 893, 14, 894, 43, 44, 895, 364, 365, 366, 48, 49, 50, 896, 360, 361, 31, 362, 133, 134, 57, 135, 136, 54, 363, 55, 56, 897, 898, 899, 47, 900, 141, 67, 901, 218, 64, 219, 496, 970, 971, 972, 973, 974, 975, 976, 977, 978, 979, 980, 981, 982, 983, 998, 999, 1000, 1001, 1002, 1013, 1014, 1015, 1016, 1017, 1018, 1019, 1020, 1021, 1022, 1023] (by decide +kernel) (by decide +kernel)
set_option maxRecDepth 20000 in
theorem gL_law_X5_from : GoodIn wsL_law (wsV RL 135 RX5 yX5_from wsX5_from) := goodIn_app (goodIn_of _ (by decide +kernel)) ggL_law_X5_from
set_option maxRecDepth 20000 in
theorem ggL_law_X6_from : GoodIn wsL_law wsX6_from := goodIn_r _ [913, 93, 147, 148, 5, 149, 150, 151, 152, 153, 97, 507, 508, 509, 510, 466, 467, 468, 469, 91, 984, 985, 986, 987, 988, 989, 990, 991, 992, 993, 994, 995, 996, 997] (by decide +kernel) (by decide +kernel)
set_option maxRecDepth 20000 in
theorem gL_law_X6_from : GoodIn wsL_law (wsV RL 138 RX6 yX6_from wsX6_from) := goodIn_app (goodIn_of _ (by decide +kernel)) ggL_law_X6_from
set_option maxRecDepth 20000 in
theorem ggL_law_X5_status : GoodIn wsL_law wsX5_status := goodIn_r _ [917, 20, 118, 119, 2, 120, 121, 122, 123, 124, 970, 971, 972, 973, 974, 975, 976, 977, 978, 979, 980, 981, 982, 983] (by decide +kernel) (by decide +kernel)
set_option maxRecDepth 20000 in
theorem gL_law_X5_status : GoodIn wsL_law (wsV RL 139 RX5 yX5_status wsX5_status) := goodIn_app (goodIn_of _ (by decide +kernel)) ggL_law_X5_status
set_option maxRecDepth 20000 in
theorem ggL_law_X6_status : GoodIn wsL_law wsX6_status := goodIn_r _ [921, 414, 97, 147, 148, 5, 149, 150, 151, 152, 153, 984, 985, 986, 987, 988, 989, 990, 991, 992, 993, 994, 995, 996, 997] (by decide +kernel) (by decide +kernel)
set_option maxRecDepth 20000 in
theorem gL_law_X6_status : GoodIn wsL_law (wsV RL 142 RX6 yX6_status wsX6_status) := goodIn_app (goodIn_of _ (by decide +kernel)) ggL_law_X6_status
set_option maxRecDepth 20000 in
theorem ggL_law_X5_count : GoodIn wsL_law wsX5_count := goodIn_r _ [925, 15, 113, 114, 520, 475, 474, 158, 749, 761, 159, 193, 926, 927, 928, 31, 929, 134, 56, 119, 2, 120, 547, 548, 549, 47, 550, 66, 141, 121, 122, 123, 124, 20, 118, 970, 971, 972, 973, 974, 975, 976, 977, 978, 979, 980, 981, 982, 983, 998, 999, 1000, 1001, 1002, 1013, 1014, 1015, 1016, 1017, 1018, 1019, 1020, 1021, 1022, 1023] (by decide +kernel) (by decide +kernel)
set_option maxRecDepth 20000 in
theorem gL_law_X5_count : GoodIn wsL_law (wsV RL 143 RX5 yX5_count wsX5_count) := goodIn_app (goodIn_of _ (by decide +kernel)) ggL_law_X5_count
set_option maxRecDepth 20000 in
theorem ggL_law_X6_count : GoodIn wsL_law wsX6_count := goodIn_r _ [933, 934, 147, 148, 5, 149, 935, 936, 937, 938, 91, 199, 939, 940, 941, 942, 150, 151, 152, 153, 97, 984, 985, 986, 987, 988, 989, 990, 991, 992, 993, 994, 995, 996, 997] (by decide +kernel) (by decide +kernel)
set_option maxRecDepth 20000 in
theorem gL_law_X6_count : GoodIn wsL_law (wsV RL 146 RX6 yX6_count wsX6_count) := goodIn_app (goodIn_of _ (by decide +kernel)) ggL_law_X6_count
set_option maxRecDepth 20000 in
theorem ggL_law_X5_digest : GoodIn wsL_law wsX5_digest := goodIn_r _ [946, 947, 948, 15, 113, 114, 537, 761, 749, 700, 19, 949, 923, 924, 2, 925, 520, 475, 474, 158, 159, 193, 926, 927, 928, 31, 929, 134, 56, 119, 120, 547, 548, 549, 47, 550, 66, 141, 121, 122, 123, 124, 20, 118, 572, 573, 574, 575, 54, 55, 950, 951, 952, 953, 954, 67, 970, 971, 972, 973, 974, 975, 976, 977, 978, 979, 980, 981, 982, 983, 998, 999, 1000, 1001, 1002, 1013, 1014, 1015, 1016, 1017, 1018, 1019, 1020, 1021, 1022, 1023] (by decide +kernel) (by decide +kernel)
set_option maxRecDepth 20000 in
theorem gL_law_X5_digest : GoodIn wsL_law (wsV RL 147 RX5 yX5_digest wsX5_digest) := goodIn_app (goodIn_of _ (by decide +kernel)) ggL_law_X5_digest
set_option maxRecDepth 20000 in
theorem ggL_law_X6_digest : GoodIn wsL_law wsX6_digest := goodIn_r _ [958, 959, 960, 91, 95, 96, 935, 936, 937, 5, 938, 199, 939, 940, 941, 942, 147, 148, 149, 961, 962, 963, 964, 965, 966, 967, 968, 969, 984, 985, 986, 987, 988, 989, 990, 991, 992, 993, 994, 995, 996, 997] (by decide +kernel) (by decide +kernel)
set_option maxRecDepth 20000 in
theorem gL_law_X6_digest : GoodIn wsL_law (wsV RL 151 RX6 yX6_digest wsX6_digest) := goodIn_app (goodIn_of _ (by decide +kernel)) ggL_law_X6_digest
