set_option maxRecDepth 20000 in
theorem ggL_law_X6_init : GoodIn wsL_law wsX6_init := goodIn_r _ [8, 9, 10, 11, 12, 13, 14, 15, 16, 17, 18, 19, 20, 21, 22, 23, 24, 25, 26, 27, 28, 29, 30, 31, 32, 33, 34, 35, 36, 37, 38, 39, 40, 41, 42, 43, 44, 45, 46, 47, 48, 49, 50, 51, 52, 53, 54, 55, 56, 57, 58, 59, 60, 61, 62, 63, 64, 65, 66, 67, 68, 69, 70, 71, 72, 73, 74, 75, 76, 77, 78, 79, 80, 81, 82, 83, 84, 85, 86, 87, 88, 89, 90, 91, 92, 93, 94, 95, 96, 97, 98, 99, 100, 101, 102, 103, 104, 105, 106, 107, 1005, 1006, 1007, 1008, 1009, 1010, 1011, 1012, 1013, 1014, 967, 968, 969, 970, 971, 972, 973, 974, 975, 976, 977, 978, 1015, 1016, 1017, 1018, 1019, 1020, 1021, 1022, 1023, 1024, 1025, 1026, 1027, 1028, 1029, 1030, 1031, 1032, 1033, 1034, 1035, 1036, 1037, 1038, 1039, 1040] (by decide +kernel) (by decide +kernel)
set_option maxRecDepth 20000 in
theorem gL_law_X6_init : GoodIn wsL_law (wsX6_init) := ggL_law_X6_init
set_option maxRecDepth 20000 in
theorem ggL_law_X7_init : GoodIn wsL_law wsX7_init := goodIn_r _ [110, 111, 10, 11, 38, 112, 113, 41, 114, 115, 116, 117, 118, 119, 120, 121, 122, 123, 124, 125, 126, 127, 128, 979, 980, 981, 982, 983, 984, 985, 986, 987, 988, 989, 990, 991, 992, 993, 994, 995, 996, 997, 998, 999, 1000, 1001, 1002, 1003, 1004] (by decide +kernel) (by decide +kernel)
set_option maxRecDepth 20000 in
theorem gL_law_X7_init : GoodIn wsL_law (wsX7_init) := ggL_law_X7_init
set_option maxRecDepth 20000 in
theorem ggL_law_X6_feed : GoodIn wsL_law wsX6_feed := goodIn_r _ [132, 29, 133, 134, 135, 136, 28, 137, 88, 87, 967, 968, 969, 970, 971, 972, 973, 974, 975, 976, 977, 978, 1028, 1029, 1030, 1031, 1032, 1033, 1034, 1035, 1036] (by decide +kernel) (by decide +kernel)
set_option maxRecDepth 20000 in
theorem gL_law_X6_feed : GoodIn wsL_law (wsV RL 13 RX6 yX6_feed wsX6_feed) := goodIn_app (goodIn_of _ (by decide +kernel)) ggL_law_X6_feed
set_option maxRecDepth 20000 in
theorem ggL_law_X7_feed : GoodIn wsL_law wsX7_feed := goodIn_r _ [141, 142, 143, 117, 144, 145, 5, 146, 979, 980, 981, 982, 983, 984, 985, 986, 987, 988, 989, 990, 991, 992, 993, 994, 995, 996, 997, 998, 999, 1000, 1001, 1002, 1003, 1004] (by decide +kernel) (by decide +kernel)
set_option maxRecDepth 20000 in
theorem gL_law_X7_feed : GoodIn wsL_law (wsV RL 17 RX7 yX7_feed wsX7_feed) := goodIn_app (goodIn_of _ (by decide +kernel)) ggL_law_X7_feed
set_option maxRecDepth 20000 in
theorem ggL_law_X6_sheets : GoodIn wsL_law wsX6_sheets := goodIn_r _ [150, 29, 133, 15, 151, 152, 153, 154, 155, 156, 157, 158, 28, 159, 95, 89, 88, 160, 161, 162, 163, 92, 90, 91, 164, 165, 166, 167, 168, 169, 170, 171, 87, 172, 2, 173, 174, 175, 176, 177, 178, 179, 180, 181, 182, 183, 184, 185, 186, 187, 188, 189, 190, 191, 192, 193, 194, 195, 196, 197, 198, 199, 200, 201, 202, 203, 204, 205, 206, 207, 208, 209, 210, 211, 212, 213, 214, 215, 216, 217, 218, 219, 220, 221, 222, 223, 224, 225, 226, 227, 228, 229, 230, 231, 232, 233, 234, 235, 236, 237, 238, 239, 240, 241, 242, 243, 14, 244, 48, 49, 50, 51, 967, 968, 969, 970, 971, 972, 973, 974, 975, 976, 977, 978, 1028, 1029, 1030, 1031, 1032, 1033, 1034, 1035, 1036, 1005, 1006, 1007, 1008, 1009, 1010, 1011, 1012, 1013, 1014] (by decide +kernel) (by decide +kernel)
set_option maxRecDepth 20000 in
theorem gL_law_X6_sheets : GoodIn wsL_law (wsV RL 18 RX6 yX6_sheets wsX6_sheets) := goodIn_app (goodIn_of _ (by decide +kernel)) ggL_law_X6_sheets
set_option maxRecDepth 20000 in
theorem ggL_law_X7_sheets : GoodIn wsL_law wsX7_sheets := goodIn_r _ [248, 143, 112, 119, 249, 250, 251, 5, 252, 253, 254, 255, 118, 256, 257, 258, 259, 260, 261, 262, 263, 122, 117, 121, 264, 265, 266, 267, 144, 145, 146, 268, 269, 270, 271, 272, 273, 274, 275, 979, 980, 981, 982, 983, 984, 985, 986, 987, 988, 989, 990, 991, 992, 993, 994, 995, 996, 997, 998, 999, 1000, 1001, 1002, 1003, 1004] (by decide +kernel) (by decide +kernel)
set_option maxRecDepth 20000 in
theorem gL_law_X7_sheets : GoodIn wsL_law (wsV RL 22 RX7 yX7_sheets wsX7_sheets) := goodIn_app (goodIn_of _ (by decide +kernel)) ggL_law_X7_sheets
set_option maxRecDepth 20000 in
theorem ggL_law_X6_number : GoodIn wsL_law wsX6_number := goodIn_r _ [279, 15, 280, 281, 282, 283, 14, 284, 48, 172, 2, 173, 285, 286, 287, 288, 967, 968, 969, 970, 971, 972, 973, 974, 975, 976, 977, 978, 1005, 1006, 1007, 1008, 1009, 1010, 1011, 1012, 1013, 1014] (by decide +kernel) (by decide +kernel)
set_option maxRecDepth 20000 in
theorem gL_law_X6_number : GoodIn wsL_law (wsV RL 23 RX6 yX6_number wsX6_number) := goodIn_app (goodIn_of _ (by decide +kernel)) ggL_law_X6_number
set_option maxRecDepth 20000 in
theorem ggL_law_X7_number : GoodIn wsL_law wsX7_number := goodIn_r _ [292, 293, 112, 294, 295, 296, 5, 297, 144, 145, 146, 298, 299, 300, 301, 302, 303, 304, 305, 979, 980, 981, 982, 983, 984, 985, 986, 987, 988, 989, 990, 991, 992, 993, 994, 995, 996, 997, 998, 999, 1000, 1001, 1002, 1003, 1004] (by decide +kernel) (by decide +kernel)
set_option maxRecDepth 20000 in
theorem gL_law_X7_number : GoodIn wsL_law (wsV RL 27 RX7 yX7_number wsX7_number) := goodIn_app (goodIn_of _ (by decide +kernel)) ggL_law_X7_number
set_option maxRecDepth 20000 in
theorem ggL_law_X6_becomes : GoodIn wsL_law wsX6_becomes := goodIn_r _ [309, 15, 310, 311, 281, 282, 283, 14, 284, 48, 172, 2, 173, 285, 286, 287, 288, 967, 968, 969, 970, 971, 972, 973, 974, 975, 976, 977, 978, 1005, 1006, 1007, 1008, 1009, 1010, 1011, 1012, 1013, 1014] (by decide +kernel) (by decide +kernel)
set_option maxRecDepth 20000 in
theorem gL_law_X6_becomes : GoodIn wsL_law (wsV RL 28 RX6 yX6_becomes wsX6_becomes) := goodIn_app (goodIn_of _ (by decide +kernel)) ggL_law_X6_becomes
set_option maxRecDepth 20000 in
theorem ggL_law_X7_becomes : GoodIn wsL_law wsX7_becomes := goodIn_r _ [315, 316, 317, 112, 294, 295, 296, 5, 297, 144, 145, 146, 318, 319, 320, 321, 322, 323, 324, 325, 979, 980, 981, 982, 983, 984, 985, 986, 987, 988, 989, 990, 991, 992, 993, 994, 995, 996, 997, 998, 999, 1000, 1001, 1002, 1003, 1004] (by decide +kernel) (by decide +kernel)
set_option maxRecDepth 20000 in
theorem gL_law_X7_becomes : GoodIn wsL_law (wsV RL 31 RX7 yX7_becomes wsX7_becomes) := goodIn_app (goodIn_of _ (by decide +kernel)) ggL_law_X7_becomes
set_option maxRecDepth 20000 in
theorem ggL_law_X6_sheet : GoodIn wsL_law wsX6_sheet := goodIn_r _ [329, 15, 310, 311, 280, 281, 282, 283, 14, 284, 48, 172, 2, 173, 285, 330, 331, 332, 333, 51, 334, 335, 336, 337, 338, 339, 340, 341, 342, 967, 968, 969, 970, 971, 972, 973, 974, 975, 976, 977, 978, 1005, 1006, 1007, 1008, 1009, 1010, 1011, 1012, 1013, 1014] (by decide +kernel) (by decide +kernel)
set_option maxRecDepth 20000 in
theorem gL_law_X6_sheet : GoodIn wsL_law (wsV RL 32 RX6 yX6_sheet wsX6_sheet) := goodIn_app (goodIn_of _ (by decide +kernel)) ggL_law_X6_sheet
set_option maxRecDepth 20000 in
theorem ggL_law_X7_sheet : GoodIn wsL_law wsX7_sheet := goodIn_r _ [346, 112, 293, 347, 348, 349, 294, 295, 296, 5, 297, 144, 145, 146, 302, 303, 304, 305, 350, 351, 352, 353, 318, 319, 320, 321, 322, 323, 324, 325, 354, 355, 356, 357, 979, 980, 981, 982, 983, 984, 985, 986, 987, 988, 989, 990, 991, 992, 993, 994, 995, 996, 997, 998, 999, 1000, 1001, 1002, 1003, 1004] (by decide +kernel) (by decide +kernel)
set_option maxRecDepth 20000 in
theorem gL_law_X7_sheet : GoodIn wsL_law (wsV RL 36 RX7 yX7_sheet wsX7_sheet) := goodIn_app (goodIn_of _ (by decide +kernel)) ggL_law_X7_sheet
set_option maxRecDepth 20000 in
theorem ggL_law_X6_stack : GoodIn wsL_law wsX6_stack := goodIn_r _ [361, 29, 15, 151, 133, 362, 363, 364, 365, 366, 28, 367, 93, 88, 94, 168, 169, 170, 171, 87, 172, 2, 173, 368, 369, 370, 14, 371, 52, 53, 372, 373, 374, 375, 54, 376, 377, 378, 379, 967, 968, 969, 970, 971, 972, 973, 974, 975, 976, 977, 978, 1005, 1006, 1007, 1008, 1009, 1010, 1011, 1012, 1013, 1014, 1028, 1029, 1030, 1031, 1032, 1033, 1034, 1035, 1036] (by decide +kernel) (by decide +kernel)
set_option maxRecDepth 20000 in
theorem gL_law_X6_stack : GoodIn wsL_law (wsV RL 37 RX6 yX6_stack wsX6_stack) := goodIn_app (goodIn_of _ (by decide +kernel)) ggL_law_X6_stack
set_option maxRecDepth 20000 in
theorem ggL_law_X7_stack : GoodIn wsL_law wsX7_stack := goodIn_r _ [383, 143, 117, 112, 294, 295, 296, 5, 297, 144, 145, 146, 979, 980, 981, 982, 983, 984, 985, 986, 987, 988, 989, 990, 991, 992, 993, 994, 995, 996, 997, 998, 999, 1000, 1001, 1002, 1003, 1004] (by decide +kernel) (by decide +kernel)
set_option maxRecDepth 20000 in
theorem gL_law_X7_stack : GoodIn wsL_law (wsV RL 40 RX7 yX7_stack wsX7_stack) := goodIn_app (goodIn_of _ (by decide +kernel)) ggL_law_X7_stack
set_option maxRecDepth 20000 in
theorem ggL_law_X6_lay : GoodIn wsL_law wsX6_lay := goodIn_r _ [387, 15, 388, 389, 377, 378, 14, 379, 52, 172, 2, 173, 281, 282, 283, 284, 48, 390, 373, 374, 375, 53, 54, 376, 967, 968, 969, 970, 971, 972, 973, 974, 975, 976, 977, 978, 1005, 1006, 1007, 1008, 1009, 1010, 1011, 1012, 1013, 1014] (by decide +kernel) (by decide +kernel)
set_option maxRecDepth 20000 in
theorem gL_law_X6_lay : GoodIn wsL_law (wsV RL 41 RX6 yX6_lay wsX6_lay) := goodIn_app (goodIn_of _ (by decide +kernel)) ggL_law_X6_lay
set_option maxRecDepth 20000 in
theorem ggL_law_X7_lay : GoodIn wsL_law wsX7_lay := goodIn_r _ [394, 112, 395, 396, 397, 5, 398, 144, 145, 146, 294, 295, 296, 297, 399, 400, 401, 402, 979, 980, 981, 982, 983, 984, 985, 986, 987, 988, 989, 990, 991, 992, 993, 994, 995, 996, 997, 998, 999, 1000, 1001, 1002, 1003, 1004] (by decide +kernel) (by decide +kernel)
set_option maxRecDepth 20000 in
theorem gL_law_X7_lay : GoodIn wsL_law (wsV RL 44 RX7 yX7_lay wsX7_lay) := goodIn_app (goodIn_of _ (by decide +kernel)) ggL_law_X7_lay
set_option maxRecDepth 20000 in
theorem ggL_law_X6_take : GoodIn wsL_law wsX6_take := goodIn_r _ [406, 15, 388, 389, 377, 378, 14, 379, 52, 172, 2, 173, 407, 408, 409, 410, 54, 376, 967, 968, 969, 970, 971, 972, 973, 974, 975, 976, 977, 978, 1005, 1006, 1007, 1008, 1009, 1010, 1011, 1012, 1013, 1014] (by decide +kernel) (by decide +kernel)
set_option maxRecDepth 20000 in
theorem gL_law_X6_take : GoodIn wsL_law (wsV RL 45 RX6 yX6_take wsX6_take) := goodIn_app (goodIn_of _ (by decide +kernel)) ggL_law_X6_take
set_option maxRecDepth 20000 in
theorem ggL_law_X7_take : GoodIn wsL_law wsX7_take := goodIn_r _ [414, 112, 395, 396, 397, 5, 398, 144, 145, 146, 399, 400, 401, 402, 415, 416, 417, 418, 979, 980, 981, 982, 983, 984, 985, 986, 987, 988, 989, 990, 991, 992, 993, 994, 995, 996, 997, 998, 999, 1000, 1001, 1002, 1003, 1004] (by decide +kernel) (by decide +kernel)
set_option maxRecDepth 20000 in
theorem gL_law_X7_take : GoodIn wsL_law (wsV RL 48 RX7 yX7_take wsX7_take) := goodIn_app (goodIn_of _ (by decide +kernel)) ggL_law_X7_take
set_option maxRecDepth 20000 in
theorem ggL_law_X6_at : GoodIn wsL_law wsX6_at := goodIn_r _ [422, 15, 388, 389, 377, 378, 14, 379, 52, 172, 2, 173, 285, 407, 408, 409, 410, 54, 376, 967, 968, 969, 970, 971, 972, 973, 974, 975, 976, 977, 978, 1005, 1006, 1007, 1008, 1009, 1010, 1011, 1012, 1013, 1014] (by decide +kernel) (by decide +kernel)
set_option maxRecDepth 20000 in
theorem gL_law_X6_at : GoodIn wsL_law (wsV RL 49 RX6 yX6_at wsX6_at) := goodIn_app (goodIn_of _ (by decide +kernel)) ggL_law_X6_at
set_option maxRecDepth 20000 in
theorem ggL_law_X7_at : GoodIn wsL_law wsX7_at := goodIn_r _ [426, 427, 395, 396, 397, 5, 398, 112, 144, 145, 146, 399, 400, 401, 402, 415, 416, 417, 418, 979, 980, 981, 982, 983, 984, 985, 986, 987, 988, 989, 990, 991, 992, 993, 994, 995, 996, 997, 998, 999, 1000, 1001, 1002, 1003, 1004] (by decide +kernel) (by decide +kernel)
set_option maxRecDepth 20000 in
theorem gL_law_X7_at : GoodIn wsL_law (wsV RL 52 RX7 yX7_at wsX7_at) := goodIn_app (goodIn_of _ (by decide +kernel)) ggL_law_X7_at
set_option maxRecDepth 20000 in
theorem ggL_law_X6_power : GoodIn wsL_law wsX6_power := goodIn_r _ [431, 15, 432, 285, 172, 2, 173, 286, 287, 288, 967, 968, 969, 970, 971, 972, 973, 974, 975, 976, 977, 978, 1005, 1006, 1007, 1008, 1009, 1010, 1011, 1012, 1013, 1014] (by decide +kernel) (by decide +kernel)
set_option maxRecDepth 20000 in
theorem gL_law_X6_power : GoodIn wsL_law (wsV RL 53 RX6 yX6_power wsX6_power) := goodIn_app (goodIn_of _ (by decide +kernel)) ggL_law_X6_power
set_option maxRecDepth 20000 in
theorem ggL_law_X7_power : GoodIn wsL_law wsX7_power := goodIn_r _ [436, 317, 112, 437, 438, 5, 439, 440, 144, 145, 146, 298, 299, 300, 301, 979, 980, 981, 982, 983, 984, 985, 986, 987, 988, 989, 990, 991, 992, 993, 994, 995, 996, 997, 998, 999, 1000, 1001, 1002, 1003, 1004] (by decide +kernel) (by decide +kernel)
set_option maxRecDepth 20000 in
theorem gL_law_X7_power : GoodIn wsL_law (wsV RL 56 RX7 yX7_power wsX7_power) := goodIn_app (goodIn_of _ (by decide +kernel)) ggL_law_X7_power
set_option maxRecDepth 20000 in
theorem ggL_law_X6_weight : GoodIn wsL_law wsX6_weight := goodIn_r _ [444, 15, 445, 285, 172, 2, 173, 286, 287, 288, 967, 968, 969, 970, 971, 972, 973, 974, 975, 976, 977, 978, 1005, 1006, 1007, 1008, 1009, 1010, 1011, 1012, 1013, 1014] (by decide +kernel) (by decide +kernel)
set_option maxRecDepth 20000 in
theorem gL_law_X6_weight : GoodIn wsL_law (wsV RL 57 RX6 yX6_weight wsX6_weight) := goodIn_app (goodIn_of _ (by decide +kernel)) ggL_law_X6_weight
set_option maxRecDepth 20000 in
theorem ggL_law_X7_weight : GoodIn wsL_law wsX7_weight := goodIn_r _ [449, 440, 317, 112, 144, 145, 5, 146, 298, 299, 300, 301, 979, 980, 981, 982, 983, 984, 985, 986, 987, 988, 989, 990, 991, 992, 993, 994, 995, 996, 997, 998, 999, 1000, 1001, 1002, 1003, 1004] (by decide +kernel) (by decide +kernel)
set_option maxRecDepth 20000 in
theorem gL_law_X7_weight : GoodIn wsL_law (wsV RL 60 RX7 yX7_weight wsX7_weight) := goodIn_app (goodIn_of _ (by decide +kernel)) ggL_law_X7_weight
set_option maxRecDepth 20000 in
theorem ggL_law_X6_through : GoodIn wsL_law wsX6_through := goodIn_r _ [453, 15, 454, 21, 455, 456, 389, 377, 378, 14, 379, 52, 172, 2, 173, 285, 457, 458, 459, 20, 460, 62, 461, 462, 463, 464, 465, 466, 467, 63, 468, 331, 332, 333, 51, 334, 282, 283, 284, 48, 335, 336, 337, 338, 339, 340, 341, 342, 469, 470, 471, 472, 473, 474, 475, 476, 477, 65, 66, 67, 68, 64, 69, 70, 478, 479, 408, 409, 410, 54, 376, 480, 481, 482, 483, 484, 485, 486, 487, 488, 489, 490, 491, 492, 493, 967, 968, 969, 970, 971, 972, 973, 974, 975, 976, 977, 978, 1015, 1016, 1017, 1018, 1019, 1005, 1006, 1007, 1008, 1009, 1010, 1011, 1012, 1013, 1014] (by decide +kernel) (by decide +kernel)
set_option maxRecDepth 20000 in
theorem gL_law_X6_through : GoodIn wsL_law (wsV RL 61 RX6 yX6_through wsX6_through) := goodIn_app (goodIn_of _ (by decide +kernel)) ggL_law_X6_through
set_option maxRecDepth 20000 in
theorem ggL_law_X7_through : GoodIn wsL_law wsX7_through := goodIn_r _ [497, 498, 114, 499, 395, 396, 397, 5, 398, 112, 144, 145, 146, 298, 299, 300, 301, 500, 501, 502, 503, 504, 505, 506, 507, 399, 400, 401, 402, 415, 416, 417, 418, 508, 509, 510, 511, 512, 350, 351, 352, 353, 302, 303, 304, 305, 318, 319, 320, 321, 322, 323, 324, 325, 354, 355, 356, 357, 513, 514, 515, 516, 517, 518, 979, 980, 981, 982, 983, 984, 985, 986, 987, 988, 989, 990, 991, 992, 993, 994, 995, 996, 997, 998, 999, 1000, 1001, 1002, 1003, 1004] (by decide +kernel) (by decide +kernel)
set_option maxRecDepth 20000 in
theorem gL_law_X7_through : GoodIn wsL_law (wsV RL 65 RX7 yX7_through wsX7_through) := goodIn_app (goodIn_of _ (by decide +kernel)) ggL_law_X7_through
set_option maxRecDepth 20000 in
theorem ggL_law_X6_sees : GoodIn wsL_law wsX6_sees := goodIn_r _ [522, 454, 21, 523, 524, 525, 2, 526, 15, 389, 377, 378, 14, 379, 52, 172, 173, 285, 457, 458, 459, 20, 460, 62, 461, 462, 463, 464, 465, 466, 467, 63, 468, 331, 332, 333, 51, 334, 282, 283, 284, 48, 335, 336, 337, 338, 339, 340, 341, 342, 469, 470, 471, 472, 473, 474, 475, 476, 477, 65, 66, 67, 68, 64, 69, 70, 478, 479, 408, 409, 410, 54, 376, 480, 481, 482, 483, 484, 527, 528, 529, 530, 531, 532, 533, 534, 535, 536, 537, 538, 539, 540, 485, 486, 487, 488, 489, 490, 491, 492, 493, 967, 968, 969, 970, 971, 972, 973, 974, 975, 976, 977, 978, 1005, 1006, 1007, 1008, 1009, 1010, 1011, 1012, 1013, 1014, 1015, 1016, 1017, 1018, 1019] (by decide +kernel) (by decide +kernel)
set_option maxRecDepth 20000 in
theorem gL_law_X6_sees : GoodIn wsL_law (wsV RL 66 RX6 yX6_sees wsX6_sees) := goodIn_app (goodIn_of _ (by decide +kernel)) ggL_law_X6_sees
set_option maxRecDepth 20000 in
theorem ggL_law_X7_sees : GoodIn wsL_law wsX7_sees := goodIn_r _ [544, 293, 440, 498, 499, 395, 396, 397, 5, 398, 112, 144, 145, 146, 437, 438, 439, 500, 501, 502, 503, 504, 505, 506, 507, 114, 399, 400, 401, 402, 415, 416, 417, 418, 508, 509, 510, 511, 512, 350, 351, 352, 353, 302, 303, 304, 305, 318, 319, 320, 321, 322, 323, 324, 325, 354, 355, 356, 357, 545, 546, 547, 548, 513, 514, 515, 516, 517, 518, 979, 980, 981, 982, 983, 984, 985, 986, 987, 988, 989, 990, 991, 992, 993, 994, 995, 996, 997, 998, 999, 1000, 1001, 1002, 1003, 1004] (by decide +kernel) (by decide +kernel)
set_option maxRecDepth 20000 in
theorem gL_law_X7_sees : GoodIn wsL_law (wsV RL 70 RX7 yX7_sees wsX7_sees) := goodIn_app (goodIn_of _ (by decide +kernel)) ggL_law_X7_sees
set_option maxRecDepth 20000 in
theorem ggL_law_X6_shade : GoodIn wsL_law wsX6_shade := goodIn_r _ [552, 21, 523, 524, 525, 2, 526, 15, 389, 377, 378, 14, 379, 52, 172, 173, 285, 457, 458, 459, 20, 460, 62, 461, 462, 463, 464, 465, 466, 467, 63, 468, 331, 332, 333, 51, 334, 282, 283, 284, 48, 335, 336, 337, 338, 339, 340, 341, 342, 469, 470, 471, 472, 473, 474, 475, 476, 477, 65, 66, 67, 68, 64, 69, 70, 478, 479, 408, 409, 410, 54, 376, 480, 481, 482, 483, 484, 553, 554, 555, 556, 557, 528, 529, 530, 531, 532, 533, 534, 535, 558, 537, 538, 539, 540, 492, 493, 967, 968, 969, 970, 971, 972, 973, 974, 975, 976, 977, 978, 1005, 1006, 1007, 1008, 1009, 1010, 1011, 1012, 1013, 1014, 1015, 1016, 1017, 1018, 1019] (by decide +kernel) (by decide +kernel)
set_option maxRecDepth 20000 in
theorem gL_law_X6_shade : GoodIn wsL_law (wsV RL 71 RX6 yX6_shade wsX6_shade) := goodIn_app (goodIn_of _ (by decide +kernel)) ggL_law_X6_shade
set_option maxRecDepth 20000 in
theorem ggL_law_X7_shade : GoodIn wsL_law wsX7_shade := goodIn_r _ [562, 293, 440, 395, 396, 397, 5, 398, 112, 144, 145, 146, 437, 438, 439, 500, 501, 502, 503, 504, 505, 506, 507, 499, 114, 399, 400, 401, 402, 415, 416, 417, 418, 508, 509, 510, 511, 512, 350, 351, 352, 353, 302, 303, 304, 305, 318, 319, 320, 321, 322, 323, 324, 325, 354, 355, 356, 357, 563, 564, 565, 566, 545, 546, 547, 548, 979, 980, 981, 982, 983, 984, 985, 986, 987, 988, 989, 990, 991, 992, 993, 994, 995, 996, 997, 998, 999, 1000, 1001, 1002, 1003, 1004] (by decide +kernel) (by decide +kernel)
set_option maxRecDepth 20000 in
theorem gL_law_X7_shade : GoodIn wsL_law (wsV RL 75 RX7 yX7_shade wsX7_shade) := goodIn_app (goodIn_of _ (by decide +kernel)) ggL_law_X7_shade
set_option maxRecDepth 20000 in
theorem ggL_law_X6_alike : GoodIn wsL_law wsX6_alike := goodIn_r _ [570, 15, 21, 389, 377, 378, 14, 379, 52, 172, 2, 173, 285, 457, 458, 459, 20, 460, 62, 461, 462, 463, 464, 465, 466, 467, 63, 468, 331, 332, 333, 51, 334, 282, 283, 284, 48, 335, 336, 337, 338, 339, 340, 341, 342, 571, 572, 573, 574, 42, 43, 469, 470, 471, 472, 473, 474, 475, 476, 477, 65, 66, 67, 68, 64, 69, 70, 478, 479, 408, 409, 410, 54, 376, 480, 481, 482, 483, 484, 575, 576, 577, 578, 557, 528, 529, 530, 531, 532, 533, 534, 535, 967, 968, 969, 970, 971, 972, 973, 974, 975, 976, 977, 978, 1005, 1006, 1007, 1008, 1009, 1010, 1011, 1012, 1013, 1014, 1015, 1016, 1017, 1018, 1019] (by decide +kernel) (by decide +kernel)
set_option maxRecDepth 20000 in
theorem gL_law_X6_alike : GoodIn wsL_law (wsV RL 76 RX6 yX6_alike wsX6_alike) := goodIn_app (goodIn_of _ (by decide +kernel)) ggL_law_X6_alike
set_option maxRecDepth 20000 in
theorem ggL_law_X7_alike : GoodIn wsL_law wsX7_alike := goodIn_r _ [582, 395, 396, 397, 5, 398, 112, 144, 145, 146, 437, 438, 439, 440, 583, 584, 585, 586, 123, 587, 588, 589, 590, 512, 500, 501, 502, 503, 504, 505, 506, 507, 499, 114, 399, 400, 401, 402, 415, 416, 417, 418, 508, 509, 510, 511, 350, 351, 352, 353, 302, 303, 304, 305, 318, 319, 320, 321, 322, 323, 324, 325, 354, 355, 356, 357, 545, 546, 547, 548, 293, 979, 980, 981, 982, 983, 984, 985, 986, 987, 988, 989, 990, 991, 992, 993, 994, 995, 996, 997, 998, 999, 1000, 1001, 1002, 1003, 1004] (by decide +kernel) (by decide +kernel)
set_option maxRecDepth 20000 in
theorem gL_law_X7_alike : GoodIn wsL_law (wsV RL 79 RX7 yX7_alike wsX7_alike) := goodIn_app (goodIn_of _ (by decide +kernel)) ggL_law_X7_alike
set_option maxRecDepth 20000 in
theorem ggL_law_X6_falsePairs : GoodIn wsL_law wsX6_falsePairs := goodIn_r _ [594, 21, 15, 595, 285, 172, 2, 173, 457, 458, 459, 20, 460, 62, 461, 462, 463, 464, 465, 466, 467, 63, 468, 331, 332, 14, 333, 51, 334, 282, 283, 284, 48, 335, 336, 337, 338, 339, 340, 341, 342, 596, 597, 598, 599, 571, 572, 573, 574, 42, 43, 469, 470, 471, 472, 473, 474, 475, 476, 477, 65, 66, 67, 68, 64, 69, 70, 478, 377, 378, 379, 52, 479, 408, 409, 410, 54, 376, 480, 481, 482, 483, 484, 575, 576, 577, 578, 557, 528, 529, 530, 531, 532, 533, 534, 535, 967, 968, 969, 970, 971, 972, 973, 974, 975, 976, 977, 978, 1005, 1006, 1007, 1008, 1009, 1010, 1011, 1012, 1013, 1014, 1015, 1016, 1017, 1018, 1019] (by decide +kernel) (by decide +kernel)
set_option maxRecDepth 20000 in
theorem gL_law_X6_falsePairs : GoodIn wsL_law (wsV RL 80 RX6 yX6_falsePairs wsX6_falsePairs) := goodIn_app (goodIn_of _ (by decide +kernel)) ggL_law_X6_falsePairs
set_option maxRecDepth 20000 in
theorem ggL_law_X7_falsePairs : GoodIn wsL_law wsX7_falsePairs := goodIn_r _ [603, 112, 437, 438, 5, 439, 440, 144, 145, 146, 604, 605, 606, 607, 583, 584, 585, 586, 123, 587, 588, 589, 590, 512, 500, 501, 502, 503, 504, 505, 506, 507, 499, 114, 399, 400, 401, 402, 415, 416, 417, 418, 508, 509, 510, 511, 350, 351, 352, 353, 302, 303, 304, 305, 318, 319, 320, 321, 322, 323, 324, 325, 354, 355, 356, 357, 545, 546, 547, 548, 293, 979, 980, 981, 982, 983, 984, 985, 986, 987, 988, 989, 990, 991, 992, 993, 994, 995, 996, 997, 998, 999, 1000, 1001, 1002, 1003, 1004] (by decide +kernel) (by decide +kernel)
set_option maxRecDepth 20000 in
theorem gL_law_X7_falsePairs : GoodIn wsL_law (wsV RL 83 RX7 yX7_falsePairs wsX7_falsePairs) := goodIn_app (goodIn_of _ (by decide +kernel)) ggL_law_X7_falsePairs
set_option maxRecDepth 20000 in
theorem ggL_law_X6_ranked : GoodIn wsL_law wsX6_ranked := goodIn_r _ [611, 15, 595, 21, 285, 172, 2, 173, 457, 458, 459, 20, 460, 62, 461, 462, 463, 464, 465, 466, 467, 63, 468, 331, 332, 14, 333, 51, 334, 282, 283, 284, 48, 335, 336, 337, 338, 339, 340, 341, 342, 612, 613, 614, 615, 616, 617, 618, 619, 42, 469, 470, 471, 472, 473, 474, 475, 476, 477, 65, 66, 67, 68, 64, 69, 70, 478, 377, 378, 379, 52, 479, 408, 409, 410, 54, 376, 480, 481, 482, 483, 484, 575, 576, 577, 578, 557, 528, 529, 530, 531, 532, 533, 534, 535, 967, 968, 969, 970, 971, 972, 973, 974, 975, 976, 977, 978, 1005, 1006, 1007, 1008, 1009, 1010, 1011, 1012, 1013, 1014, 1015, 1016, 1017, 1018, 1019] (by decide +kernel) (by decide +kernel)
set_option maxRecDepth 20000 in
theorem gL_law_X6_ranked : GoodIn wsL_law (wsV RL 84 RX6 yX6_ranked wsX6_ranked) := goodIn_app (goodIn_of _ (by decide +kernel)) ggL_law_X6_ranked
set_option maxRecDepth 20000 in
theorem ggL_law_X7_ranked : GoodIn wsL_law wsX7_ranked := goodIn_r _ [623, 112, 437, 438, 5, 439, 440, 144, 145, 146, 624, 625, 626, 627, 123, 587, 588, 589, 590, 512, 500, 501, 502, 503, 504, 505, 506, 507, 499, 114, 399, 400, 401, 402, 415, 416, 417, 418, 508, 509, 510, 511, 350, 351, 352, 353, 302, 303, 304, 305, 318, 319, 320, 321, 322, 323, 324, 325, 354, 355, 356, 357, 545, 546, 547, 548, 293, 979, 980, 981, 982, 983, 984, 985, 986, 987, 988, 989, 990, 991, 992, 993, 994, 995, 996, 997, 998, 999, 1000, 1001, 1002, 1003, 1004] (by decide +kernel) (by decide +kernel)
set_option maxRecDepth 20000 in
theorem gL_law_X7_ranked : GoodIn wsL_law (wsV RL 87 RX7 yX7_ranked wsX7_ranked) := goodIn_app (goodIn_of _ (by decide +kernel)) ggL_law_X7_ranked
