set_option maxRecDepth 20000 in
theorem ggL_law_X5_mean : GoodIn wsL_law wsX5_mean := goodIn_r _ [724, 28, 15, 113, 674, 118, 119, 2, 120, 121, 122, 123, 124, 20, 675, 676, 677, 27, 678, 86, 83, 679, 69, 70, 71, 680, 360, 361, 31, 362, 133, 134, 57, 135, 136, 54, 363, 364, 365, 366, 55, 56, 681, 682, 683, 684, 218, 64, 219, 85, 685, 329, 330, 331, 686, 687, 688, 689, 337, 338, 339, 340, 341, 342, 343, 63, 65, 344, 345, 346, 690, 348, 349, 350, 351, 352, 353, 354, 355, 356, 357, 358, 725, 726, 727, 728, 696, 697, 698, 699, 700, 19, 701, 702, 703, 970, 971, 972, 973, 974, 975, 976, 977, 978, 979, 980, 981, 982, 983, 998, 999, 1000, 1001, 1002, 1010, 1011, 1012, 1013, 1014, 1015, 1016, 1017, 1018, 1019, 1020] (by decide +kernel) (by decide +kernel)
set_option maxRecDepth 20000 in
theorem gL_law_X5_mean : GoodIn wsL_law (wsV RL 80 RX5 yX5_mean wsX5_mean) := goodIn_app (goodIn_of _ (by decide +kernel)) ggL_law_X5_mean
set_option maxRecDepth 20000 in
theorem ggL_law_X6_mean : GoodIn wsL_law wsX6_mean := goodIn_r _ [732, 708, 91, 147, 148, 5, 149, 150, 151, 152, 153, 97, 733, 734, 735, 736, 710, 711, 712, 610, 611, 612, 613, 713, 714, 715, 716, 618, 619, 620, 621, 185, 186, 187, 188, 423, 424, 425, 426, 427, 428, 429, 430, 431, 432, 433, 434, 435, 436, 437, 438, 439, 440, 441, 442, 443, 444, 445, 446, 447, 448, 449, 450, 451, 452, 453, 454, 455, 456, 457, 717, 718, 719, 720, 95, 96, 984, 985, 986, 987, 988, 989, 990, 991, 992, 993, 994, 995, 996, 997] (by decide +kernel) (by decide +kernel)
set_option maxRecDepth 20000 in
theorem gL_law_X6_mean : GoodIn wsL_law (wsV RL 83 RX6 yX6_mean wsX6_mean) := goodIn_app (goodIn_of _ (by decide +kernel)) ggL_law_X6_mean
set_option maxRecDepth 20000 in
theorem ggL_law_X5_send : GoodIn wsL_law wsX5_send := goodIn_r _ [740, 32, 15, 113, 114, 519, 520, 28, 118, 119, 2, 120, 121, 122, 123, 124, 20, 359, 360, 361, 31, 362, 133, 134, 57, 135, 136, 54, 363, 364, 365, 366, 55, 56, 675, 676, 677, 27, 678, 86, 83, 679, 69, 70, 71, 680, 681, 682, 683, 684, 218, 64, 219, 85, 685, 329, 330, 331, 686, 687, 688, 689, 337, 338, 339, 340, 341, 342, 343, 63, 65, 344, 345, 346, 690, 348, 349, 350, 351, 352, 353, 354, 355, 356, 357, 358, 725, 726, 727, 728, 970, 971, 972, 973, 974, 975, 976, 977, 978, 979, 980, 981, 982, 983, 998, 999, 1000, 1001, 1002, 1013, 1014, 1015, 1016, 1017, 1018, 1019, 1020, 1010, 1011, 1012] (by decide +kernel) (by decide +kernel)
set_option maxRecDepth 20000 in
theorem gL_law_X5_send : GoodIn wsL_law (wsV RL 84 RX5 yX5_send wsX5_send) := goodIn_app (goodIn_of _ (by decide +kernel)) ggL_law_X5_send
set_option maxRecDepth 20000 in
theorem ggL_law_X6_send : GoodIn wsL_law wsX6_send := goodIn_r _ [744, 427, 91, 147, 148, 5, 149, 150, 151, 152, 153, 97, 733, 734, 735, 736, 710, 711, 712, 610, 611, 612, 613, 713, 714, 715, 716, 618, 619, 620, 621, 185, 186, 187, 188, 423, 424, 425, 426, 428, 429, 430, 431, 432, 433, 434, 435, 436, 437, 438, 439, 440, 441, 442, 443, 444, 445, 446, 447, 448, 449, 450, 451, 452, 453, 454, 455, 456, 457, 984, 985, 986, 987, 988, 989, 990, 991, 992, 993, 994, 995, 996, 997] (by decide +kernel) (by decide +kernel)
set_option maxRecDepth 20000 in
theorem gL_law_X6_send : GoodIn wsL_law (wsV RL 87 RX6 yX6_send wsX6_send) := goodIn_app (goodIn_of _ (by decide +kernel)) ggL_law_X6_send
set_option maxRecDepth 20000 in
theorem ggL_law_X5_note : GoodIn wsL_law wsX5_note := goodIn_r _ [748, 15, 749, 118, 119, 2, 120, 476, 477, 478, 121, 122, 123, 124, 20, 750, 489, 490, 47, 491, 141, 66, 67, 751, 498, 499, 500, 547, 548, 549, 550, 970, 971, 972, 973, 974, 975, 976, 977, 978, 979, 980, 981, 982, 983, 998, 999, 1000, 1001, 1002, 1021, 1022, 1023] (by decide +kernel) (by decide +kernel)
set_option maxRecDepth 20000 in
theorem gL_law_X5_note : GoodIn wsL_law (wsV RL 88 RX5 yX5_note wsX5_note) := goodIn_app (goodIn_of _ (by decide +kernel)) ggL_law_X5_note
set_option maxRecDepth 20000 in
theorem ggL_law_X6_note : GoodIn wsL_law wsX6_note := goodIn_r _ [755, 756, 506, 709, 91, 147, 148, 5, 149, 150, 151, 152, 153, 97, 177, 178, 179, 180, 984, 985, 986, 987, 988, 989, 990, 991, 992, 993, 994, 995, 996, 997] (by decide +kernel) (by decide +kernel)
set_option maxRecDepth 20000 in
theorem gL_law_X6_note : GoodIn wsL_law (wsV RL 92 RX6 yX6_note wsX6_note) := goodIn_app (goodIn_of _ (by decide +kernel)) ggL_law_X6_note
set_option maxRecDepth 20000 in
theorem ggL_law_X5_mark : GoodIn wsL_law wsX5_mark := goodIn_r _ [760, 15, 761, 521, 522, 523, 2, 524, 113, 114, 118, 119, 120, 121, 122, 123, 124, 20, 750, 489, 490, 47, 491, 141, 66, 67, 751, 498, 499, 500, 547, 548, 549, 550, 970, 971, 972, 973, 974, 975, 976, 977, 978, 979, 980, 981, 982, 983, 998, 999, 1000, 1001, 1002, 1013, 1014, 1015, 1016, 1017, 1018, 1019, 1020, 1021, 1022, 1023] (by decide +kernel) (by decide +kernel)
set_option maxRecDepth 20000 in
theorem gL_law_X5_mark : GoodIn wsL_law (wsV RL 93 RX5 yX5_mark wsX5_mark) := goodIn_app (goodIn_of _ (by decide +kernel)) ggL_law_X5_mark
set_option maxRecDepth 20000 in
theorem ggL_law_X6_mark : GoodIn wsL_law wsX6_mark := goodIn_r _ [765, 146, 709, 506, 91, 529, 530, 531, 5, 532, 147, 148, 149, 150, 151, 152, 153, 97, 177, 178, 179, 180, 984, 985, 986, 987, 988, 989, 990, 991, 992, 993, 994, 995, 996, 997] (by decide +kernel) (by decide +kernel)
set_option maxRecDepth 20000 in
theorem gL_law_X6_mark : GoodIn wsL_law (wsV RL 97 RX6 yX6_mark wsX6_mark) := goodIn_app (goodIn_of _ (by decide +kernel)) ggL_law_X6_mark
set_option maxRecDepth 20000 in
theorem ggL_law_X5_forget : GoodIn wsL_law wsX5_forget := goodIn_r _ [769, 15, 749, 761, 118, 119, 2, 120, 121, 122, 123, 124, 20, 547, 548, 549, 47, 550, 66, 141, 160, 138, 139, 140, 970, 971, 972, 973, 974, 975, 976, 977, 978, 979, 980, 981, 982, 983, 998, 999, 1000, 1001, 1002, 1021, 1022, 1023] (by decide +kernel) (by decide +kernel)
set_option maxRecDepth 20000 in
theorem gL_law_X5_forget : GoodIn wsL_law (wsV RL 98 RX5 yX5_forget wsX5_forget) := goodIn_app (goodIn_of _ (by decide +kernel)) ggL_law_X5_forget
set_option maxRecDepth 20000 in
theorem ggL_law_X6_forget : GoodIn wsL_law wsX6_forget := goodIn_r _ [773, 91, 147, 148, 5, 149, 150, 151, 152, 153, 97, 984, 985, 986, 987, 988, 989, 990, 991, 992, 993, 994, 995, 996, 997] (by decide +kernel) (by decide +kernel)
set_option maxRecDepth 20000 in
theorem gL_law_X6_forget : GoodIn wsL_law (wsV RL 101 RX6 yX6_forget wsX6_forget) := goodIn_app (goodIn_of _ (by decide +kernel)) ggL_law_X6_forget
set_option maxRecDepth 20000 in
theorem ggL_law_X5_is : GoodIn wsL_law wsX5_is := goodIn_r _ [777, 778, 779, 780, 2, 781, 15, 749, 547, 548, 549, 47, 550, 66, 141, 782, 557, 558, 559, 67, 783, 341, 342, 343, 63, 64, 65, 344, 218, 219, 970, 971, 972, 973, 974, 975, 976, 977, 978, 979, 980, 981, 982, 983, 998, 999, 1000, 1001, 1002, 1021, 1022, 1023] (by decide +kernel) (by decide +kernel)
set_option maxRecDepth 20000 in
theorem gL_law_X5_is : GoodIn wsL_law (wsV RL 102 RX5 yX5_is wsX5_is) := goodIn_app (goodIn_of _ (by decide +kernel)) ggL_law_X5_is
set_option maxRecDepth 20000 in
theorem ggL_law_X6_is : GoodIn wsL_law wsX6_is := goodIn_r _ [787, 91, 432, 433, 5, 434, 435, 436, 437, 438, 439, 440, 984, 985, 986, 987, 988, 989, 990, 991, 992, 993, 994, 995, 996, 997] (by decide +kernel) (by decide +kernel)
set_option maxRecDepth 20000 in
theorem gL_law_X6_is : GoodIn wsL_law (wsV RL 105 RX6 yX6_is wsX6_is) := goodIn_app (goodIn_of _ (by decide +kernel)) ggL_law_X6_is
set_option maxRecDepth 20000 in
theorem ggL_law_X5_look : GoodIn wsL_law wsX5_look := goodIn_r _ [791, 35, 792, 775, 776, 2, 777, 778, 779, 780, 781, 15, 749, 547, 548, 549, 47, 550, 66, 141, 782, 557, 558, 559, 67, 783, 341, 342, 343, 63, 64, 65, 344, 218, 219, 793, 794, 795, 796, 970, 971, 972, 973, 974, 975, 976, 977, 978, 979, 980, 981, 982, 983, 998, 999, 1000, 1001, 1002, 1021, 1022, 1023] (by decide +kernel) (by decide +kernel)
set_option maxRecDepth 20000 in
theorem gL_law_X5_look : GoodIn wsL_law (wsV RL 106 RX5 yX5_look wsX5_look) := goodIn_app (goodIn_of _ (by decide +kernel)) ggL_law_X5_look
set_option maxRecDepth 20000 in
theorem ggL_law_X6_look : GoodIn wsL_law wsX6_look := goodIn_r _ [800, 669, 801, 785, 786, 5, 787, 91, 432, 433, 434, 435, 436, 437, 438, 439, 440, 802, 803, 804, 984, 985, 986, 987, 988, 989, 990, 991, 992, 993, 994, 995, 996, 997] (by decide +kernel) (by decide +kernel)
set_option maxRecDepth 20000 in
theorem gL_law_X6_look : GoodIn wsL_law (wsV RL 109 RX6 yX6_look wsX6_look) := goodIn_app (goodIn_of _ (by decide +kernel)) ggL_law_X6_look
set_option maxRecDepth 20000 in
theorem ggL_law_X5_kinds : GoodIn wsL_law wsX5_kinds := goodIn_r _ [808, 521, 522, 523, 2, 524, 15, 113, 114, 118, 119, 120, 121, 122, 123, 124, 20, 809, 810, 811, 812, 813, 814, 815, 816, 761, 547, 548, 549, 47, 550, 66, 141, 782, 557, 558, 559, 67, 817, 345, 346, 344, 218, 64, 219, 970, 971, 972, 973, 974, 975, 976, 977, 978, 979, 980, 981, 982, 983, 998, 999, 1000, 1001, 1002, 1013, 1014, 1015, 1016, 1017, 1018, 1019, 1020, 1021, 1022, 1023] (by decide +kernel) (by decide +kernel)
set_option maxRecDepth 20000 in
theorem gL_law_X5_kinds : GoodIn wsL_law (wsV RL 110 RX5 yX5_kinds wsX5_kinds) := goodIn_app (goodIn_of _ (by decide +kernel)) ggL_law_X5_kinds
set_option maxRecDepth 20000 in
theorem ggL_law_X6_kinds : GoodIn wsL_law wsX6_kinds := goodIn_r _ [821, 529, 530, 531, 5, 532, 91, 147, 148, 149, 822, 823, 824, 825, 445, 446, 447, 448, 449, 450, 451, 452, 453, 150, 151, 152, 153, 97, 984, 985, 986, 987, 988, 989, 990, 991, 992, 993, 994, 995, 996, 997] (by decide +kernel) (by decide +kernel)
set_option maxRecDepth 20000 in
theorem gL_law_X6_kinds : GoodIn wsL_law (wsV RL 113 RX6 yX6_kinds wsX6_kinds) := goodIn_app (goodIn_of _ (by decide +kernel)) ggL_law_X6_kinds
set_option maxRecDepth 20000 in
theorem ggL_law_X5_ask : GoodIn wsL_law wsX5_ask := goodIn_r _ [829, 35, 15, 113, 830, 521, 522, 523, 2, 524, 114, 118, 119, 120, 121, 122, 123, 124, 20, 809, 810, 811, 812, 813, 814, 815, 816, 761, 547, 548, 549, 47, 550, 66, 141, 782, 557, 558, 559, 67, 817, 345, 346, 344, 218, 64, 219, 793, 794, 795, 796, 343, 63, 65, 970, 971, 972, 973, 974, 975, 976, 977, 978, 979, 980, 981, 982, 983, 998, 999, 1000, 1001, 1002, 1013, 1014, 1015, 1016, 1017, 1018, 1019, 1020, 1021, 1022, 1023] (by decide +kernel) (by decide +kernel)
set_option maxRecDepth 20000 in
theorem gL_law_X5_ask : GoodIn wsL_law (wsV RL 114 RX5 yX5_ask wsX5_ask) := goodIn_app (goodIn_of _ (by decide +kernel)) ggL_law_X5_ask
