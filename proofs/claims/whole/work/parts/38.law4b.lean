set_option maxRecDepth 20000 in
theorem ggL_law_X6_sends : GoodIn wsL_law wsX6_sends := goodIn_r _ [528, 91, 529, 530, 531, 5, 532, 147, 148, 149, 150, 151, 152, 153, 97, 507, 508, 509, 510, 511, 512, 513, 514, 984, 985, 986, 987, 988, 989, 990, 991, 992, 993, 994, 995, 996, 997] (by decide +kernel) (by decide +kernel)
set_option maxRecDepth 20000 in
theorem gL_law_X6_sends : GoodIn wsL_law (wsV RL 47 RX6 yX6_sends wsX6_sends) := goodIn_app (goodIn_of _ (by decide +kernel)) ggL_law_X6_sends
set_option maxRecDepth 20000 in
theorem ggL_law_X5_row : GoodIn wsL_law wsX5_row := goodIn_r _ [536, 15, 537, 118, 119, 2, 120, 476, 477, 478, 121, 122, 123, 124, 20, 970, 971, 972, 973, 974, 975, 976, 977, 978, 979, 980, 981, 982, 983, 998, 999, 1000, 1001, 1002] (by decide +kernel) (by decide +kernel)
set_option maxRecDepth 20000 in
theorem gL_law_X5_row : GoodIn wsL_law (wsV RL 48 RX5 yX5_row wsX5_row) := goodIn_app (goodIn_of _ (by decide +kernel)) ggL_law_X5_row
set_option maxRecDepth 20000 in
theorem ggL_law_X6_row : GoodIn wsL_law wsX6_row := goodIn_r _ [541, 542, 506, 91, 147, 148, 5, 149, 150, 151, 152, 153, 97, 984, 985, 986, 987, 988, 989, 990, 991, 992, 993, 994, 995, 996, 997] (by decide +kernel) (by decide +kernel)
set_option maxRecDepth 20000 in
theorem gL_law_X6_row : GoodIn wsL_law (wsV RL 51 RX6 yX6_row wsX6_row) := goodIn_app (goodIn_of _ (by decide +kernel)) ggL_law_X6_row
set_option maxRecDepth 20000 in
theorem ggL_law_X5_undo : GoodIn wsL_law wsX5_undo := goodIn_r _ [546, 15, 159, 113, 474, 547, 548, 549, 47, 550, 66, 141, 121, 122, 123, 2, 124, 20, 118, 119, 120, 551, 552, 553, 14, 554, 50, 43, 484, 485, 486, 487, 555, 556, 557, 558, 559, 67, 560, 561, 562, 563, 62, 63, 64, 65, 970, 971, 972, 973, 974, 975, 976, 977, 978, 979, 980, 981, 982, 983, 998, 999, 1000, 1001, 1002, 1013, 1014, 1015, 1016, 1017, 1018, 1019, 1020, 1021, 1022, 1023] (by decide +kernel) (by decide +kernel)
set_option maxRecDepth 20000 in
theorem gL_law_X5_undo : GoodIn wsL_law (wsV RL 52 RX5 yX5_undo wsX5_undo) := goodIn_app (goodIn_of _ (by decide +kernel)) ggL_law_X5_undo
set_option maxRecDepth 20000 in
theorem ggL_law_X6_undo : GoodIn wsL_law wsX6_undo := goodIn_r _ [567, 91, 507, 508, 509, 5, 510, 97, 984, 985, 986, 987, 988, 989, 990, 991, 992, 993, 994, 995, 996, 997] (by decide +kernel) (by decide +kernel)
set_option maxRecDepth 20000 in
theorem gL_law_X6_undo : GoodIn wsL_law (wsV RL 55 RX6 yX6_undo wsX6_undo) := goodIn_app (goodIn_of _ (by decide +kernel)) ggL_law_X6_undo
set_option maxRecDepth 20000 in
theorem ggL_law_X5_of : GoodIn wsL_law wsX5_of := goodIn_r _ [571, 15, 113, 521, 522, 523, 2, 524, 114, 118, 119, 120, 121, 122, 123, 124, 20, 572, 573, 574, 31, 575, 134, 54, 55, 56, 970, 971, 972, 973, 974, 975, 976, 977, 978, 979, 980, 981, 982, 983, 998, 999, 1000, 1001, 1002, 1013, 1014, 1015, 1016, 1017, 1018, 1019, 1020] (by decide +kernel) (by decide +kernel)
set_option maxRecDepth 20000 in
theorem gL_law_X5_of : GoodIn wsL_law (wsV RL 56 RX5 yX5_of wsX5_of) := goodIn_app (goodIn_of _ (by decide +kernel)) ggL_law_X5_of
set_option maxRecDepth 20000 in
theorem ggL_law_X6_of : GoodIn wsL_law wsX6_of := goodIn_r _ [579, 414, 91, 529, 530, 531, 5, 532, 147, 148, 149, 150, 151, 152, 153, 97, 984, 985, 986, 987, 988, 989, 990, 991, 992, 993, 994, 995, 996, 997] (by decide +kernel) (by decide +kernel)
set_option maxRecDepth 20000 in
theorem gL_law_X6_of : GoodIn wsL_law (wsV RL 59 RX6 yX6_of wsX6_of) := goodIn_app (goodIn_of _ (by decide +kernel)) ggL_law_X6_of
set_option maxRecDepth 20000 in
theorem ggL_law_X5_worth : GoodIn wsL_law wsX5_worth := goodIn_r _ [583, 15, 113, 343, 63, 64, 65, 476, 477, 2, 478, 118, 119, 120, 121, 122, 123, 124, 20, 584, 585, 586, 31, 587, 133, 136, 341, 342, 344, 218, 219, 588, 337, 338, 339, 54, 57, 55, 340, 329, 330, 331, 134, 345, 346, 970, 971, 972, 973, 974, 975, 976, 977, 978, 979, 980, 981, 982, 983, 998, 999, 1000, 1001, 1002, 1013, 1014, 1015, 1016, 1017, 1018, 1019, 1020] (by decide +kernel) (by decide +kernel)
set_option maxRecDepth 20000 in
theorem gL_law_X5_worth : GoodIn wsL_law (wsV RL 60 RX5 yX5_worth wsX5_worth) := goodIn_app (goodIn_of _ (by decide +kernel)) ggL_law_X5_worth
set_option maxRecDepth 20000 in
theorem ggL_law_X6_worth : GoodIn wsL_law wsX6_worth := goodIn_r _ [592, 506, 147, 148, 5, 149, 150, 151, 152, 153, 97, 428, 429, 430, 431, 91, 432, 433, 434, 435, 436, 437, 438, 439, 440, 185, 186, 187, 188, 441, 442, 443, 444, 445, 446, 447, 448, 449, 450, 451, 452, 453, 984, 985, 986, 987, 988, 989, 990, 991, 992, 993, 994, 995, 996, 997] (by decide +kernel) (by decide +kernel)
set_option maxRecDepth 20000 in
theorem gL_law_X6_worth : GoodIn wsL_law (wsV RL 63 RX6 yX6_worth wsX6_worth) := goodIn_app (goodIn_of _ (by decide +kernel)) ggL_law_X6_worth
set_option maxRecDepth 20000 in
theorem ggL_law_X5_score : GoodIn wsL_law wsX5_score := goodIn_r _ [596, 15, 113, 158, 520, 118, 119, 2, 120, 121, 122, 123, 124, 20, 597, 598, 599, 600, 32, 537, 359, 360, 361, 31, 362, 133, 134, 57, 135, 136, 54, 363, 364, 365, 366, 55, 56, 601, 602, 603, 604, 340, 329, 330, 331, 336, 337, 338, 339, 341, 342, 343, 63, 64, 65, 344, 218, 219, 345, 346, 347, 348, 349, 350, 351, 352, 353, 354, 355, 356, 357, 358, 970, 971, 972, 973, 974, 975, 976, 977, 978, 979, 980, 981, 982, 983, 998, 999, 1000, 1001, 1002, 1013, 1014, 1015, 1016, 1017, 1018, 1019, 1020] (by decide +kernel) (by decide +kernel)
set_option maxRecDepth 20000 in
theorem gL_law_X5_score : GoodIn wsL_law (wsV RL 64 RX5 yX5_score wsX5_score) := goodIn_app (goodIn_of _ (by decide +kernel)) ggL_law_X5_score
set_option maxRecDepth 20000 in
theorem ggL_law_X6_score : GoodIn wsL_law wsX6_score := goodIn_r _ [608, 609, 147, 148, 5, 149, 150, 151, 152, 153, 97, 610, 611, 612, 613, 91, 614, 615, 616, 617, 618, 619, 620, 621, 185, 186, 187, 188, 423, 424, 425, 426, 427, 428, 429, 430, 431, 432, 433, 434, 435, 436, 437, 438, 439, 440, 441, 442, 443, 444, 445, 446, 447, 448, 449, 450, 451, 452, 453, 454, 455, 456, 457, 984, 985, 986, 987, 988, 989, 990, 991, 992, 993, 994, 995, 996, 997] (by decide +kernel) (by decide +kernel)
set_option maxRecDepth 20000 in
theorem gL_law_X6_score : GoodIn wsL_law (wsV RL 67 RX6 yX6_score wsX6_score) := goodIn_app (goodIn_of _ (by decide +kernel)) ggL_law_X6_score
set_option maxRecDepth 20000 in
theorem ggL_law_X5_order : GoodIn wsL_law wsX5_order := goodIn_r _ [625, 15, 113, 114, 34, 118, 119, 2, 120, 121, 122, 123, 124, 20, 626, 627, 628, 629, 33, 32, 537, 630, 364, 365, 366, 631, 632, 633, 31, 634, 133, 136, 134, 54, 55, 635, 130, 131, 132, 57, 135, 636, 170, 171, 172, 56, 601, 602, 603, 604, 340, 329, 330, 331, 336, 337, 338, 339, 341, 342, 343, 63, 64, 65, 344, 218, 219, 345, 346, 347, 348, 349, 350, 351, 352, 353, 354, 355, 356, 357, 358, 637, 638, 639, 640, 641, 642, 643, 644, 970, 971, 972, 973, 974, 975, 976, 977, 978, 979, 980, 981, 982, 983, 998, 999, 1000, 1001, 1002, 1013, 1014, 1015, 1016, 1017, 1018, 1019, 1020] (by decide +kernel) (by decide +kernel)
set_option maxRecDepth 20000 in
theorem gL_law_X5_order : GoodIn wsL_law (wsV RL 68 RX5 yX5_order wsX5_order) := goodIn_app (goodIn_of _ (by decide +kernel)) ggL_law_X5_order
set_option maxRecDepth 20000 in
theorem ggL_law_X6_order : GoodIn wsL_law wsX6_order := goodIn_r _ [648, 609, 91, 98, 99, 147, 148, 5, 149, 150, 151, 152, 153, 97, 649, 650, 651, 652, 610, 611, 612, 613, 614, 615, 616, 617, 618, 619, 620, 621, 185, 186, 187, 188, 423, 424, 425, 426, 427, 428, 429, 430, 431, 432, 433, 434, 435, 436, 437, 438, 439, 440, 441, 442, 443, 444, 445, 446, 447, 448, 449, 450, 451, 452, 453, 454, 455, 456, 457, 653, 654, 655, 656, 657, 658, 659, 660, 984, 985, 986, 987, 988, 989, 990, 991, 992, 993, 994, 995, 996, 997] (by decide +kernel) (by decide +kernel)
set_option maxRecDepth 20000 in
theorem gL_law_X6_order : GoodIn wsL_law (wsV RL 71 RX6 yX6_order wsX6_order) := goodIn_app (goodIn_of _ (by decide +kernel)) ggL_law_X6_order
set_option maxRecDepth 20000 in
theorem ggL_law_X5_against : GoodIn wsL_law wsX5_against := goodIn_r _ [664, 15, 113, 520, 118, 119, 2, 120, 121, 122, 123, 124, 20, 597, 598, 599, 600, 32, 158, 537, 359, 360, 361, 31, 362, 133, 134, 57, 135, 136, 54, 363, 364, 365, 366, 55, 56, 601, 602, 603, 604, 340, 329, 330, 331, 336, 337, 338, 339, 341, 342, 343, 63, 64, 65, 344, 218, 219, 345, 346, 347, 348, 349, 350, 351, 352, 353, 354, 355, 356, 357, 358, 970, 971, 972, 973, 974, 975, 976, 977, 978, 979, 980, 981, 982, 983, 998, 999, 1000, 1001, 1002, 1013, 1014, 1015, 1016, 1017, 1018, 1019, 1020] (by decide +kernel) (by decide +kernel)
set_option maxRecDepth 20000 in
theorem gL_law_X5_against : GoodIn wsL_law (wsV RL 72 RX5 yX5_against wsX5_against) := goodIn_app (goodIn_of _ (by decide +kernel)) ggL_law_X5_against
set_option maxRecDepth 20000 in
theorem ggL_law_X6_against : GoodIn wsL_law wsX6_against := goodIn_r _ [668, 609, 669, 91, 147, 148, 5, 149, 150, 151, 152, 153, 97, 610, 611, 612, 613, 614, 615, 616, 617, 618, 619, 620, 621, 185, 186, 187, 188, 423, 424, 425, 426, 427, 428, 429, 430, 431, 432, 433, 434, 435, 436, 437, 438, 439, 440, 441, 442, 443, 444, 445, 446, 447, 448, 449, 450, 451, 452, 453, 454, 455, 456, 457, 984, 985, 986, 987, 988, 989, 990, 991, 992, 993, 994, 995, 996, 997] (by decide +kernel) (by decide +kernel)
set_option maxRecDepth 20000 in
theorem gL_law_X6_against : GoodIn wsL_law (wsV RL 75 RX6 yX6_against wsX6_against) := goodIn_app (goodIn_of _ (by decide +kernel)) ggL_law_X6_against
set_option maxRecDepth 20000 in
theorem ggL_law_X5_chance : GoodIn wsL_law wsX5_chance := goodIn_r _ [673, 28, 15, 113, 674, 118, 119, 2, 120, 121, 122, 123, 124, 20, 675, 676, 677, 27, 678, 86, 83, 679, 69, 70, 71, 680, 360, 361, 31, 362, 133, 134, 57, 135, 136, 54, 363, 364, 365, 366, 55, 56, 681, 682, 683, 684, 218, 64, 219, 85, 685, 329, 330, 331, 686, 687, 688, 689, 337, 338, 339, 340, 341, 342, 343, 63, 65, 344, 345, 346, 690, 348, 349, 350, 351, 352, 353, 354, 355, 356, 357, 358, 691, 692, 693, 694, 695, 696, 697, 698, 699, 700, 19, 701, 702, 703, 970, 971, 972, 973, 974, 975, 976, 977, 978, 979, 980, 981, 982, 983, 998, 999, 1000, 1001, 1002, 1010, 1011, 1012, 1013, 1014, 1015, 1016, 1017, 1018, 1019, 1020] (by decide +kernel) (by decide +kernel)
set_option maxRecDepth 20000 in
theorem gL_law_X5_chance : GoodIn wsL_law (wsV RL 76 RX5 yX5_chance wsX5_chance) := goodIn_app (goodIn_of _ (by decide +kernel)) ggL_law_X5_chance
set_option maxRecDepth 20000 in
theorem ggL_law_X6_chance : GoodIn wsL_law wsX6_chance := goodIn_r _ [707, 708, 709, 147, 148, 5, 149, 150, 151, 152, 153, 97, 710, 711, 712, 610, 611, 612, 613, 91, 713, 714, 715, 716, 618, 619, 620, 621, 185, 186, 187, 188, 423, 424, 425, 426, 427, 428, 429, 430, 431, 432, 433, 434, 435, 436, 437, 438, 439, 440, 441, 442, 443, 444, 445, 446, 447, 448, 449, 450, 451, 452, 453, 454, 455, 456, 457, 717, 718, 719, 720, 95, 96, 984, 985, 986, 987, 988, 989, 990, 991, 992, 993, 994, 995, 996, 997] (by decide +kernel) (by decide +kernel)
set_option maxRecDepth 20000 in
theorem gL_law_X6_chance : GoodIn wsL_law (wsV RL 79 RX6 yX6_chance wsX6_chance) := goodIn_app (goodIn_of _ (by decide +kernel)) ggL_law_X6_chance
