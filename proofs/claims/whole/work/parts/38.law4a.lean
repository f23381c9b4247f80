set_option maxRecDepth 20000 in
theorem ggL_law_X5_init : GoodIn wsL_law wsX5_init := goodIn_r _ [8, 9, 10, 11, 12, 13, 14, 15, 16, 17, 18, 19, 20, 21, 22, 23, 24, 25, 26, 27, 28, 29, 30, 31, 32, 33, 34, 35, 36, 37, 38, 39, 40, 41, 42, 43, 44, 45, 46, 47, 48, 49, 50, 51, 52, 53, 54, 55, 56, 57, 58, 59, 60, 61, 62, 63, 64, 65, 66, 67, 68, 69, 70, 71, 72, 73, 74, 75, 76, 77, 78, 79, 80, 81, 82, 83, 84, 85, 86, 998, 999, 1000, 1001, 1002, 970, 971, 972, 973, 974, 975, 976, 977, 978, 979, 980, 981, 982, 983, 1003, 1004, 1005, 1006, 1007, 1008, 1009, 1010, 1011, 1012, 1013, 1014, 1015, 1016, 1017, 1018, 1019, 1020, 1021, 1022, 1023] (by decide +kernel) (by decide +kernel)
set_option maxRecDepth 20000 in
theorem gL_law_X5_init : GoodIn wsL_law (wsX5_init) := ggL_law_X5_init
set_option maxRecDepth 20000 in
theorem ggL_law_X6_init : GoodIn wsL_law wsX6_init := goodIn_r _ [89, 90, 10, 11, 17, 91, 92, 93, 94, 95, 96, 97, 98, 99, 100, 101, 102, 103, 5, 104, 105, 106, 107, 108, 984, 985, 986, 987, 988, 989, 990, 991, 992, 993, 994, 995, 996, 997] (by decide +kernel) (by decide +kernel)
set_option maxRecDepth 20000 in
theorem gL_law_X6_init : GoodIn wsL_law (wsX6_init) := ggL_law_X6_init
set_option maxRecDepth 20000 in
theorem ggL_law_X5_field : GoodIn wsL_law wsX5_field := goodIn_r _ [112, 15, 113, 114, 115, 116, 2, 117, 118, 119, 120, 121, 122, 123, 124, 20, 125, 126, 127, 14, 128, 43, 44, 48, 49, 50, 129, 130, 131, 31, 132, 133, 134, 57, 135, 136, 68, 69, 70, 71, 137, 138, 139, 47, 140, 141, 970, 971, 972, 973, 974, 975, 976, 977, 978, 979, 980, 981, 982, 983, 998, 999, 1000, 1001, 1002, 1013, 1014, 1015, 1016, 1017, 1018, 1019, 1020, 1021, 1022, 1023] (by decide +kernel) (by decide +kernel)
set_option maxRecDepth 20000 in
theorem gL_law_X5_field : GoodIn wsL_law (wsV RL 13 RX5 yX5_field wsX5_field) := goodIn_app (goodIn_of _ (by decide +kernel)) ggL_law_X5_field
set_option maxRecDepth 20000 in
theorem ggL_law_X6_field : GoodIn wsL_law wsX6_field := goodIn_r _ [145, 146, 91, 147, 148, 5, 149, 150, 151, 152, 153, 97, 101, 102, 103, 104, 105, 106, 107, 108, 984, 985, 986, 987, 988, 989, 990, 991, 992, 993, 994, 995, 996, 997] (by decide +kernel) (by decide +kernel)
set_option maxRecDepth 20000 in
theorem gL_law_X6_field : GoodIn wsL_law (wsV RL 17 RX6 yX6_field wsX6_field) := goodIn_app (goodIn_of _ (by decide +kernel)) ggL_law_X6_field
set_option maxRecDepth 20000 in
theorem ggL_law_X5_bowler : GoodIn wsL_law wsX5_bowler := goodIn_r _ [157, 15, 113, 158, 159, 115, 116, 2, 117, 118, 119, 120, 121, 122, 123, 124, 20, 160, 138, 139, 47, 140, 141, 970, 971, 972, 973, 974, 975, 976, 977, 978, 979, 980, 981, 982, 983, 998, 999, 1000, 1001, 1002, 1013, 1014, 1015, 1016, 1017, 1018, 1019, 1020, 1021, 1022, 1023] (by decide +kernel) (by decide +kernel)
set_option maxRecDepth 20000 in
theorem gL_law_X5_bowler : GoodIn wsL_law (wsV RL 18 RX5 yX5_bowler wsX5_bowler) := goodIn_app (goodIn_of _ (by decide +kernel)) ggL_law_X5_bowler
set_option maxRecDepth 20000 in
theorem ggL_law_X6_bowler : GoodIn wsL_law wsX6_bowler := goodIn_r _ [164, 146, 91, 147, 148, 5, 149, 150, 151, 152, 153, 97, 984, 985, 986, 987, 988, 989, 990, 991, 992, 993, 994, 995, 996, 997] (by decide +kernel) (by decide +kernel)
set_option maxRecDepth 20000 in
theorem gL_law_X6_bowler : GoodIn wsL_law (wsV RL 21 RX6 yX6_bowler wsX6_bowler) := goodIn_app (goodIn_of _ (by decide +kernel)) ggL_law_X6_bowler
set_option maxRecDepth 20000 in
theorem ggL_law_X5_batter : GoodIn wsL_law wsX5_batter := goodIn_r _ [168, 15, 113, 114, 159, 115, 116, 2, 117, 118, 119, 120, 121, 122, 123, 124, 20, 160, 138, 139, 47, 140, 141, 169, 170, 171, 31, 172, 134, 54, 55, 56, 57, 970, 971, 972, 973, 974, 975, 976, 977, 978, 979, 980, 981, 982, 983, 998, 999, 1000, 1001, 1002, 1013, 1014, 1015, 1016, 1017, 1018, 1019, 1020, 1021, 1022, 1023] (by decide +kernel) (by decide +kernel)
set_option maxRecDepth 20000 in
theorem gL_law_X5_batter : GoodIn wsL_law (wsV RL 22 RX5 yX5_batter wsX5_batter) := goodIn_app (goodIn_of _ (by decide +kernel)) ggL_law_X5_batter
set_option maxRecDepth 20000 in
theorem ggL_law_X6_batter : GoodIn wsL_law wsX6_batter := goodIn_r _ [176, 146, 91, 147, 148, 5, 149, 150, 151, 152, 153, 97, 177, 178, 179, 180, 181, 182, 183, 184, 185, 186, 187, 188, 984, 985, 986, 987, 988, 989, 990, 991, 992, 993, 994, 995, 996, 997] (by decide +kernel) (by decide +kernel)
set_option maxRecDepth 20000 in
theorem gL_law_X6_batter : GoodIn wsL_law (wsV RL 26 RX6 yX6_batter wsX6_batter) := goodIn_app (goodIn_of _ (by decide +kernel)) ggL_law_X6_batter
set_option maxRecDepth 20000 in
theorem ggL_law_X5_type : GoodIn wsL_law wsX5_type := goodIn_r _ [192, 193, 18, 118, 119, 2, 120, 121, 122, 123, 124, 20, 970, 971, 972, 973, 974, 975, 976, 977, 978, 979, 980, 981, 982, 983] (by decide +kernel) (by decide +kernel)
set_option maxRecDepth 20000 in
theorem gL_law_X5_type : GoodIn wsL_law (wsV RL 27 RX5 yX5_type wsX5_type) := goodIn_app (goodIn_of _ (by decide +kernel)) ggL_law_X5_type
set_option maxRecDepth 20000 in
theorem ggL_law_X6_type : GoodIn wsL_law wsX6_type := goodIn_r _ [197, 198, 199, 94, 147, 148, 5, 149, 150, 151, 152, 153, 97, 177, 178, 179, 180, 984, 985, 986, 987, 988, 989, 990, 991, 992, 993, 994, 995, 996, 997] (by decide +kernel) (by decide +kernel)
set_option maxRecDepth 20000 in
theorem gL_law_X6_type : GoodIn wsL_law (wsV RL 30 RX6 yX6_type wsX6_type) := goodIn_app (goodIn_of _ (by decide +kernel)) ggL_law_X6_type
set_option maxRecDepth 20000 in
theorem ggL_law_X5_clear : GoodIn wsL_law wsX5_clear := goodIn_r _ [203, 193, 970, 971, 972, 973, 974, 975, 976, 977, 978, 979, 980, 981, 982, 983] (by decide +kernel) (by decide +kernel)
set_option maxRecDepth 20000 in
theorem gL_law_X5_clear : GoodIn wsL_law (wsV RL 31 RX5 yX5_clear wsX5_clear) := goodIn_app (goodIn_of _ (by decide +kernel)) ggL_law_X5_clear
set_option maxRecDepth 20000 in
theorem ggL_law_X6_clear : GoodIn wsL_law wsX6_clear := goodIn_r _ [207, 199, 984, 985, 986, 987, 988, 989, 990, 991, 992, 993, 994, 995, 996, 997] (by decide +kernel) (by decide +kernel)
set_option maxRecDepth 20000 in
theorem gL_law_X6_clear : GoodIn wsL_law (wsV RL 35 RX6 yX6_clear wsX6_clear) := goodIn_app (goodIn_of _ (by decide +kernel)) ggL_law_X6_clear
set_option maxRecDepth 20000 in
theorem ggL_law_X5_read : GoodIn wsL_law wsX5_read := goodIn_r _ [211, 24, 18, 193, 15, 113, 212, 213, 214, 215, 23, 216, 77, 217, 218, 64, 219, 220, 221, 76, 222, 223, 224, 130, 131, 31, 132, 133, 134, 57, 135, 136, 225, 226, 227, 228, 229, 230, 231, 232, 233, 234, 235, 236, 237, 238, 239, 240, 241, 242, 243, 244, 245, 246, 247, 248, 249, 250, 251, 252, 253, 254, 255, 256, 257, 258, 259, 260, 261, 262, 263, 264, 265, 266, 267, 268, 269, 270, 271, 272, 273, 274, 275, 276, 277, 278, 279, 280, 281, 282, 283, 284, 285, 286, 287, 288, 289, 290, 291, 292, 293, 294, 295, 296, 297, 298, 299, 300, 301, 302, 303, 304, 305, 306, 307, 308, 309, 119, 2, 120, 310, 311, 312, 313, 314, 315, 316, 317, 318, 319, 320, 321, 322, 323, 170, 171, 172, 54, 55, 56, 324, 325, 326, 327, 328, 329, 330, 331, 332, 333, 334, 335, 336, 337, 338, 339, 340, 341, 342, 343, 63, 65, 344, 345, 346, 347, 348, 349, 350, 351, 352, 353, 354, 355, 356, 357, 358, 125, 126, 127, 14, 128, 43, 44, 48, 49, 50, 129, 68, 69, 70, 71, 137, 138, 139, 47, 140, 141, 359, 360, 361, 362, 363, 364, 365, 366, 970, 971, 972, 973, 974, 975, 976, 977, 978, 979, 980, 981, 982, 983, 998, 999, 1000, 1001, 1002, 1003, 1004, 1005, 1006, 1007, 1008, 1009, 1013, 1014, 1015, 1016, 1017, 1018, 1019, 1020, 1021, 1022, 1023] (by decide +kernel) (by decide +kernel)
set_option maxRecDepth 20000 in
theorem gL_law_X5_read : GoodIn wsL_law (wsV RL 36 RX5 yX5_read wsX5_read) := goodIn_app (goodIn_of _ (by decide +kernel)) ggL_law_X5_read
set_option maxRecDepth 20000 in
theorem ggL_law_X6_read : GoodIn wsL_law wsX6_read := goodIn_r _ [370, 371, 372, 199, 105, 106, 107, 5, 108, 91, 373, 374, 375, 376, 377, 378, 379, 380, 94, 381, 382, 383, 384, 385, 386, 387, 388, 389, 390, 147, 148, 149, 391, 392, 393, 394, 395, 396, 397, 398, 399, 400, 401, 402, 403, 404, 405, 406, 407, 408, 409, 410, 411, 412, 413, 414, 101, 102, 103, 104, 415, 416, 417, 418, 181, 182, 183, 184, 185, 186, 187, 188, 419, 420, 421, 422, 423, 424, 425, 426, 427, 428, 429, 430, 431, 432, 433, 434, 435, 436, 437, 438, 439, 440, 441, 442, 443, 444, 445, 446, 447, 448, 449, 450, 451, 452, 453, 454, 455, 456, 457, 458, 459, 460, 461, 462, 463, 464, 465, 466, 467, 468, 469, 984, 985, 986, 987, 988, 989, 990, 991, 992, 993, 994, 995, 996, 997] (by decide +kernel) (by decide +kernel)
set_option maxRecDepth 20000 in
theorem gL_law_X6_read : GoodIn wsL_law (wsV RL 39 RX6 yX6_read wsX6_read) := goodIn_app (goodIn_of _ (by decide +kernel)) ggL_law_X6_read
set_option maxRecDepth 20000 in
theorem ggL_law_X5_hits : GoodIn wsL_law wsX5_hits := goodIn_r _ [473, 15, 113, 474, 475, 344, 218, 64, 219, 476, 477, 2, 478, 118, 119, 120, 121, 122, 123, 124, 20, 479, 329, 330, 31, 331, 57, 134, 480, 481, 482, 14, 483, 50, 43, 484, 485, 486, 487, 488, 489, 490, 47, 491, 141, 66, 67, 492, 493, 494, 495, 496, 364, 365, 366, 497, 498, 499, 500, 501, 333, 334, 335, 336, 337, 338, 339, 133, 136, 54, 55, 340, 341, 342, 343, 63, 65, 345, 346, 347, 348, 349, 350, 56, 135, 351, 352, 353, 354, 355, 356, 357, 358, 970, 971, 972, 973, 974, 975, 976, 977, 978, 979, 980, 981, 982, 983, 998, 999, 1000, 1001, 1002, 1013, 1014, 1015, 1016, 1017, 1018, 1019, 1020, 1021, 1022, 1023] (by decide +kernel) (by decide +kernel)
set_option maxRecDepth 20000 in
theorem gL_law_X5_hits : GoodIn wsL_law (wsV RL 40 RX5 yX5_hits wsX5_hits) := goodIn_app (goodIn_of _ (by decide +kernel)) ggL_law_X5_hits
set_option maxRecDepth 20000 in
theorem ggL_law_X6_hits : GoodIn wsL_law wsX6_hits := goodIn_r _ [505, 506, 91, 147, 148, 5, 149, 150, 151, 152, 153, 97, 185, 186, 187, 188, 507, 508, 509, 510, 511, 512, 513, 514, 423, 424, 425, 426, 427, 428, 429, 430, 431, 432, 433, 434, 435, 436, 437, 438, 439, 440, 441, 442, 443, 444, 445, 446, 447, 448, 449, 450, 451, 452, 453, 454, 455, 456, 457, 458, 459, 460, 461, 984, 985, 986, 987, 988, 989, 990, 991, 992, 993, 994, 995, 996, 997] (by decide +kernel) (by decide +kernel)
set_option maxRecDepth 20000 in
theorem gL_law_X6_hits : GoodIn wsL_law (wsV RL 43 RX6 yX6_hits wsX6_hits) := goodIn_app (goodIn_of _ (by decide +kernel)) ggL_law_X6_hits
set_option maxRecDepth 20000 in
theorem ggL_law_X5_sends : GoodIn wsL_law wsX5_sends := goodIn_r _ [518, 15, 113, 519, 520, 521, 522, 523, 2, 524, 114, 118, 119, 120, 121, 122, 123, 124, 20, 480, 481, 482, 14, 483, 50, 43, 484, 485, 486, 487, 488, 489, 490, 47, 491, 141, 66, 67, 492, 493, 494, 495, 496, 364, 365, 366, 497, 498, 499, 500, 970, 971, 972, 973, 974, 975, 976, 977, 978, 979, 980, 981, 982, 983, 998, 999, 1000, 1001, 1002, 1013, 1014, 1015, 1016, 1017, 1018, 1019, 1020, 1021, 1022, 1023] (by decide +kernel) (by decide +kernel)
set_option maxRecDepth 20000 in
theorem gL_law_X5_sends : GoodIn wsL_law (wsV RL 44 RX5 yX5_sends wsX5_sends) := goodIn_app (goodIn_of _ (by decide +kernel)) ggL_law_X5_sends
