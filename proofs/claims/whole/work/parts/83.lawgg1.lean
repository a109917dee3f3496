set_option maxRecDepth 20000 in
theorem ggL_law_X6_wish : GoodIn wsL_law wsX6_wish := goodIn_r _ [631, 15, 632, 285, 172, 2, 173, 967, 968, 969, 970, 971, 972, 973, 974, 975, 976, 977, 978, 1005, 1006, 1007, 1008, 1009, 1010, 1011, 1012, 1013, 1014] (by decide +kernel) (by decide +kernel)
set_option maxRecDepth 20000 in
theorem gL_law_X6_wish : GoodIn wsL_law (wsV RL 88 RX6 yX6_wish wsX6_wish) := goodIn_app (goodIn_of _ (by decide +kernel)) ggL_law_X6_wish
set_option maxRecDepth 20000 in
theorem ggL_law_X7_wish : GoodIn wsL_law wsX7_wish := goodIn_r _ [636, 637, 112, 144, 145, 5, 146, 979, 980, 981, 982, 983, 984, 985, 986, 987, 988, 989, 990, 991, 992, 993, 994, 995, 996, 997, 998, 999, 1000, 1001, 1002, 1003, 1004] (by decide +kernel) (by decide +kernel)
set_option maxRecDepth 20000 in
theorem gL_law_X7_wish : GoodIn wsL_law (wsV RL 91 RX7 yX7_wish wsX7_wish) := goodIn_app (goodIn_of _ (by decide +kernel)) ggL_law_X7_wish
set_option maxRecDepth 20000 in
theorem ggL_law_X6_fewest : GoodIn wsL_law wsX6_fewest := goodIn_r _ [641, 25, 642, 643, 285, 172, 2, 173, 644, 645, 646, 24, 647, 76, 82, 648, 458, 459, 20, 460, 62, 461, 462, 463, 464, 465, 466, 467, 63, 468, 331, 332, 14, 333, 51, 334, 282, 283, 284, 48, 335, 336, 337, 338, 339, 340, 341, 342, 649, 650, 651, 652, 77, 75, 653, 654, 655, 656, 657, 658, 66, 67, 68, 64, 69, 70, 659, 481, 482, 483, 484, 660, 661, 662, 663, 664, 665, 554, 555, 556, 557, 528, 529, 530, 531, 532, 533, 534, 535, 558, 537, 538, 539, 540, 492, 493, 666, 667, 668, 669, 78, 80, 81, 670, 671, 672, 673, 674, 675, 676, 677, 678, 679, 680, 967, 968, 969, 970, 971, 972, 973, 974, 975, 976, 977, 978, 1020, 1021, 1022, 1023, 1024, 1025, 1026, 1027, 1015, 1016, 1017, 1018, 1019, 1005, 1006, 1007, 1008, 1009, 1010, 1011, 1012, 1013, 1014] (by decide +kernel) (by decide +kernel)
set_option maxRecDepth 20000 in
theorem gL_law_X6_fewest : GoodIn wsL_law (wsV RL 92 RX6 yX6_fewest wsX6_fewest) := goodIn_app (goodIn_of _ (by decide +kernel)) ggL_law_X6_fewest
set_option maxRecDepth 20000 in
theorem ggL_law_X7_fewest : GoodIn wsL_law wsX7_fewest := goodIn_r _ [684, 293, 685, 686, 687, 688, 437, 438, 5, 439, 440, 144, 145, 146, 689, 690, 691, 692, 112, 124, 125, 693, 694, 695, 696, 115, 504, 505, 506, 507, 499, 114, 508, 509, 510, 511, 512, 350, 351, 352, 353, 302, 303, 304, 305, 318, 319, 320, 321, 322, 323, 324, 325, 354, 355, 356, 357, 697, 698, 699, 700, 563, 564, 565, 566, 545, 546, 547, 548, 701, 702, 703, 704, 705, 706, 707, 708, 709, 710, 711, 712, 979, 980, 981, 982, 983, 984, 985, 986, 987, 988, 989, 990, 991, 992, 993, 994, 995, 996, 997, 998, 999, 1000, 1001, 1002, 1003, 1004] (by decide +kernel) (by decide +kernel)
set_option maxRecDepth 20000 in
theorem gL_law_X7_fewest : GoodIn wsL_law (wsV RL 95 RX7 yX7_fewest wsX7_fewest) := goodIn_app (goodIn_of _ (by decide +kernel)) ggL_law_X7_fewest
set_option maxRecDepth 20000 in
theorem ggL_law_X6_nearest : GoodIn wsL_law wsX6_nearest := goodIn_r _ [716, 25, 643, 717, 285, 172, 2, 173, 718, 719, 720, 24, 721, 76, 722, 81, 648, 458, 459, 20, 460, 62, 461, 462, 463, 464, 465, 466, 467, 63, 468, 331, 332, 14, 333, 51, 334, 282, 283, 284, 48, 335, 336, 337, 338, 339, 340, 341, 342, 649, 650, 651, 652, 77, 75, 653, 654, 655, 656, 657, 658, 66, 67, 68, 64, 69, 70, 659, 481, 482, 483, 484, 723, 724, 725, 726, 79, 664, 727, 728, 729, 730, 731, 554, 555, 556, 557, 528, 529, 530, 531, 532, 533, 534, 535, 558, 537, 538, 539, 540, 492, 493, 732, 733, 734, 735, 736, 666, 667, 668, 669, 78, 80, 670, 671, 672, 673, 674, 675, 676, 677, 678, 679, 680, 967, 968, 969, 970, 971, 972, 973, 974, 975, 976, 977, 978, 1020, 1021, 1022, 1023, 1024, 1025, 1026, 1027, 1015, 1016, 1017, 1018, 1019, 1005, 1006, 1007, 1008, 1009, 1010, 1011, 1012, 1013, 1014] (by decide +kernel) (by decide +kernel)
set_option maxRecDepth 20000 in
theorem gL_law_X6_nearest : GoodIn wsL_law (wsV RL 96 RX6 yX6_nearest wsX6_nearest) := goodIn_app (goodIn_of _ (by decide +kernel)) ggL_law_X6_nearest
set_option maxRecDepth 20000 in
theorem ggL_law_X7_nearest : GoodIn wsL_law wsX7_nearest := goodIn_r _ [740, 293, 741, 687, 686, 437, 438, 5, 439, 440, 144, 145, 146, 689, 690, 691, 692, 688, 112, 124, 125, 693, 694, 695, 696, 115, 504, 505, 506, 507, 499, 114, 508, 509, 510, 511, 512, 350, 351, 352, 353, 302, 303, 304, 305, 318, 319, 320, 321, 322, 323, 324, 325, 354, 355, 356, 357, 697, 698, 699, 700, 563, 564, 565, 566, 545, 546, 547, 548, 701, 702, 703, 704, 705, 706, 707, 708, 709, 710, 711, 712, 979, 980, 981, 982, 983, 984, 985, 986, 987, 988, 989, 990, 991, 992, 993, 994, 995, 996, 997, 998, 999, 1000, 1001, 1002, 1003, 1004] (by decide +kernel) (by decide +kernel)
set_option maxRecDepth 20000 in
theorem gL_law_X7_nearest : GoodIn wsL_law (wsV RL 99 RX7 yX7_nearest wsX7_nearest) := goodIn_app (goodIn_of _ (by decide +kernel)) ggL_law_X7_nearest
set_option maxRecDepth 20000 in
theorem ggL_law_X6_without : GoodIn wsL_law wsX6_without := goodIn_r _ [745, 15, 388, 21, 39, 40, 389, 377, 378, 14, 379, 52, 172, 2, 173, 285, 457, 458, 459, 20, 460, 62, 461, 462, 463, 464, 465, 466, 467, 63, 468, 331, 332, 333, 51, 334, 282, 283, 284, 48, 335, 336, 337, 338, 339, 340, 341, 342, 469, 470, 471, 472, 473, 474, 475, 476, 477, 65, 66, 67, 68, 64, 69, 70, 478, 479, 408, 409, 410, 54, 376, 480, 481, 482, 483, 484, 746, 728, 729, 730, 731, 554, 555, 556, 557, 528, 529, 530, 531, 532, 533, 534, 535, 558, 537, 538, 539, 540, 492, 493, 747, 748, 732, 733, 734, 735, 736, 967, 968, 969, 970, 971, 972, 973, 974, 975, 976, 977, 978, 1005, 1006, 1007, 1008, 1009, 1010, 1011, 1012, 1013, 1014, 1015, 1016, 1017, 1018, 1019] (by decide +kernel) (by decide +kernel)
set_option maxRecDepth 20000 in
theorem gL_law_X6_without : GoodIn wsL_law (wsV RL 100 RX6 yX6_without wsX6_without) := goodIn_app (goodIn_of _ (by decide +kernel)) ggL_law_X6_without
set_option maxRecDepth 20000 in
theorem ggL_law_X7_without : GoodIn wsL_law wsX7_without := goodIn_r _ [752, 395, 396, 397, 5, 398, 112, 144, 145, 146, 437, 438, 439, 440, 399, 400, 401, 402, 753, 754, 755, 756, 115, 116, 500, 501, 502, 503, 504, 505, 506, 507, 499, 114, 415, 416, 417, 418, 508, 509, 510, 511, 512, 350, 351, 352, 353, 302, 303, 304, 305, 318, 319, 320, 321, 322, 323, 324, 325, 354, 355, 356, 357, 697, 698, 699, 700, 563, 564, 565, 566, 293, 545, 546, 547, 548, 757, 758, 759, 760, 701, 702, 703, 704, 979, 980, 981, 982, 983, 984, 985, 986, 987, 988, 989, 990, 991, 992, 993, 994, 995, 996, 997, 998, 999, 1000, 1001, 1002, 1003, 1004] (by decide +kernel) (by decide +kernel)
set_option maxRecDepth 20000 in
theorem gL_law_X7_without : GoodIn wsL_law (wsV RL 103 RX7 yX7_without wsX7_without) := goodIn_app (goodIn_of _ (by decide +kernel)) ggL_law_X7_without
set_option maxRecDepth 20000 in
theorem ggL_law_X6_dark : GoodIn wsL_law wsX6_dark := goodIn_r _ [764, 15, 21, 388, 389, 377, 378, 14, 379, 52, 172, 2, 173, 285, 281, 282, 283, 284, 48, 457, 458, 459, 20, 460, 62, 461, 462, 463, 464, 465, 466, 467, 63, 468, 331, 332, 333, 51, 334, 335, 336, 337, 338, 339, 340, 341, 342, 469, 470, 471, 472, 473, 474, 475, 476, 477, 65, 66, 67, 68, 64, 69, 70, 478, 479, 408, 409, 410, 54, 376, 480, 481, 482, 483, 484, 765, 766, 767, 768, 731, 554, 555, 556, 557, 528, 529, 530, 531, 532, 533, 534, 535, 558, 537, 538, 539, 540, 492, 493, 769, 967, 968, 969, 970, 971, 972, 973, 974, 975, 976, 977, 978, 1005, 1006, 1007, 1008, 1009, 1010, 1011, 1012, 1013, 1014, 1015, 1016, 1017, 1018, 1019] (by decide +kernel) (by decide +kernel)
set_option maxRecDepth 20000 in
theorem gL_law_X6_dark : GoodIn wsL_law (wsV RL 104 RX6 yX6_dark wsX6_dark) := goodIn_app (goodIn_of _ (by decide +kernel)) ggL_law_X6_dark
set_option maxRecDepth 20000 in
theorem ggL_law_X7_dark : GoodIn wsL_law wsX7_dark := goodIn_r _ [773, 115, 395, 396, 397, 5, 398, 112, 144, 145, 146, 437, 438, 439, 440, 294, 295, 296, 297, 500, 501, 502, 503, 504, 505, 506, 507, 499, 114, 399, 400, 401, 402, 415, 416, 417, 418, 508, 509, 510, 511, 512, 350, 351, 352, 353, 302, 303, 304, 305, 318, 319, 320, 321, 322, 323, 324, 325, 354, 355, 356, 357, 697, 698, 699, 700, 563, 564, 565, 566, 293, 545, 546, 547, 548, 979, 980, 981, 982, 983, 984, 985, 986, 987, 988, 989, 990, 991, 992, 993, 994, 995, 996, 997, 998, 999, 1000, 1001, 1002, 1003, 1004] (by decide +kernel) (by decide +kernel)
set_option maxRecDepth 20000 in
theorem gL_law_X7_dark : GoodIn wsL_law (wsV RL 107 RX7 yX7_dark wsX7_dark) := goodIn_app (goodIn_of _ (by decide +kernel)) ggL_law_X7_dark
set_option maxRecDepth 20000 in
theorem ggL_law_X6_fades : GoodIn wsL_law wsX6_fades := goodIn_r _ [777, 15, 21, 39, 40, 389, 377, 378, 14, 379, 52, 172, 2, 173, 285, 457, 458, 459, 20, 460, 62, 461, 462, 463, 464, 465, 466, 467, 63, 468, 331, 332, 333, 51, 334, 282, 283, 284, 48, 335, 336, 337, 338, 339, 340, 341, 342, 469, 470, 471, 472, 473, 474, 475, 476, 477, 65, 66, 67, 68, 64, 69, 70, 478, 479, 408, 409, 410, 54, 376, 480, 481, 482, 483, 484, 746, 728, 729, 730, 731, 554, 555, 556, 557, 528, 529, 530, 531, 532, 533, 534, 535, 558, 537, 538, 539, 540, 492, 493, 748, 732, 733, 734, 735, 736, 967, 968, 969, 970, 971, 972, 973, 974, 975, 976, 977, 978, 1005, 1006, 1007, 1008, 1009, 1010, 1011, 1012, 1013, 1014, 1015, 1016, 1017, 1018, 1019] (by decide +kernel) (by decide +kernel)
set_option maxRecDepth 20000 in
theorem gL_law_X6_fades : GoodIn wsL_law (wsV RL 108 RX6 yX6_fades wsX6_fades) := goodIn_app (goodIn_of _ (by decide +kernel)) ggL_law_X6_fades
set_option maxRecDepth 20000 in
theorem ggL_law_X7_fades : GoodIn wsL_law wsX7_fades := goodIn_r _ [781, 115, 395, 396, 397, 5, 398, 112, 144, 145, 146, 437, 438, 439, 440, 500, 501, 502, 503, 504, 505, 506, 507, 499, 114, 399, 400, 401, 402, 415, 416, 417, 418, 508, 509, 510, 511, 512, 350, 351, 352, 353, 302, 303, 304, 305, 318, 319, 320, 321, 322, 323, 324, 325, 354, 355, 356, 357, 697, 698, 699, 700, 563, 564, 565, 566, 293, 545, 546, 547, 548, 979, 980, 981, 982, 983, 984, 985, 986, 987, 988, 989, 990, 991, 992, 993, 994, 995, 996, 997, 998, 999, 1000, 1001, 1002, 1003, 1004] (by decide +kernel) (by decide +kernel)
set_option maxRecDepth 20000 in
theorem gL_law_X7_fades : GoodIn wsL_law (wsV RL 111 RX7 yX7_fades wsX7_fades) := goodIn_app (goodIn_of _ (by decide +kernel)) ggL_law_X7_fades
set_option maxRecDepth 20000 in
theorem ggL_law_X6_was : GoodIn wsL_law wsX6_was := goodIn_r _ [785, 15, 37, 786, 21, 310, 311, 281, 282, 283, 14, 284, 48, 172, 2, 173, 389, 377, 378, 379, 52, 285, 787, 788, 789, 36, 790, 107, 457, 458, 459, 20, 460, 62, 461, 462, 463, 464, 465, 466, 467, 63, 468, 331, 332, 333, 51, 334, 335, 336, 337, 338, 339, 340, 341, 342, 791, 469, 470, 471, 472, 473, 474, 475, 476, 477, 65, 66, 67, 68, 64, 69, 70, 478, 479, 408, 409, 410, 54, 376, 480, 481, 482, 483, 484, 792, 793, 794, 795, 553, 554, 555, 556, 557, 528, 529, 530, 531, 532, 533, 534, 535, 558, 537, 538, 539, 540, 492, 493, 796, 797, 798, 799, 106, 800, 801, 802, 803, 804, 967, 968, 969, 970, 971, 972, 973, 974, 975, 976, 977, 978, 1039, 1040, 1005, 1006, 1007, 1008, 1009, 1010, 1011, 1012, 1013, 1014, 1015, 1016, 1017, 1018, 1019] (by decide +kernel) (by decide +kernel)
set_option maxRecDepth 20000 in
theorem gL_law_X6_was : GoodIn wsL_law (wsV RL 112 RX6 yX6_was wsX6_was) := goodIn_app (goodIn_of _ (by decide +kernel)) ggL_law_X6_was
set_option maxRecDepth 20000 in
theorem ggL_law_X7_was : GoodIn wsL_law wsX7_was := goodIn_r _ [808, 128, 112, 294, 295, 296, 5, 297, 144, 145, 146, 395, 396, 397, 398, 437, 438, 439, 440, 809, 810, 811, 812, 813, 814, 815, 816, 115, 127, 500, 501, 502, 503, 504, 505, 506, 507, 499, 114, 399, 400, 401, 402, 415, 416, 417, 418, 508, 509, 510, 511, 512, 350, 351, 352, 353, 302, 303, 304, 305, 318, 319, 320, 321, 322, 323, 324, 325, 354, 355, 356, 357, 697, 698, 699, 700, 563, 564, 565, 566, 293, 545, 546, 547, 548, 979, 980, 981, 982, 983, 984, 985, 986, 987, 988, 989, 990, 991, 992, 993, 994, 995, 996, 997, 998, 999, 1000, 1001, 1002, 1003, 1004] (by decide +kernel) (by decide +kernel)
set_option maxRecDepth 20000 in
theorem gL_law_X7_was : GoodIn wsL_law (wsV RL 116 RX7 yX7_was wsX7_was) := goodIn_app (goodIn_of _ (by decide +kernel)) ggL_law_X7_was
set_option maxRecDepth 20000 in
theorem ggL_law_X6_odds : GoodIn wsL_law wsX6_odds := goodIn_r _ [820, 454, 15, 151, 21, 285, 172, 2, 173, 457, 458, 459, 20, 460, 62, 461, 462, 463, 464, 465, 466, 467, 63, 468, 331, 332, 14, 333, 51, 334, 282, 283, 284, 48, 335, 336, 337, 338, 339, 340, 341, 342, 821, 822, 823, 824, 825, 826, 827, 65, 66, 67, 68, 64, 69, 70, 480, 481, 482, 483, 484, 553, 554, 555, 556, 557, 528, 529, 530, 531, 532, 533, 534, 535, 558, 537, 538, 539, 540, 492, 493, 485, 486, 487, 488, 489, 490, 491, 967, 968, 969, 970, 971, 972, 973, 974, 975, 976, 977, 978, 1005, 1006, 1007, 1008, 1009, 1010, 1011, 1012, 1013, 1014, 1015, 1016, 1017, 1018, 1019] (by decide +kernel) (by decide +kernel)
set_option maxRecDepth 20000 in
theorem gL_law_X6_odds : GoodIn wsL_law (wsV RL 117 RX6 yX6_odds wsX6_odds) := goodIn_app (goodIn_of _ (by decide +kernel)) ggL_law_X6_odds
set_option maxRecDepth 20000 in
theorem ggL_law_X7_odds : GoodIn wsL_law wsX7_odds := goodIn_r _ [831, 301, 348, 440, 112, 498, 832, 833, 834, 144, 145, 5, 146, 437, 438, 439, 504, 505, 506, 507, 499, 114, 508, 509, 510, 511, 512, 350, 351, 352, 353, 302, 303, 304, 305, 318, 319, 320, 321, 322, 323, 324, 325, 354, 355, 356, 357, 563, 564, 565, 566, 293, 545, 546, 547, 548, 513, 514, 515, 516, 517, 518, 979, 980, 981, 982, 983, 984, 985, 986, 987, 988, 989, 990, 991, 992, 993, 994, 995, 996, 997, 998, 999, 1000, 1001, 1002, 1003, 1004] (by decide +kernel) (by decide +kernel)
set_option maxRecDepth 20000 in
theorem gL_law_X7_odds : GoodIn wsL_law (wsV RL 121 RX7 yX7_odds wsX7_odds) := goodIn_app (goodIn_of _ (by decide +kernel)) ggL_law_X7_odds
set_option maxRecDepth 20000 in
theorem ggL_law_X6_spell : GoodIn wsL_law wsX6_spell := goodIn_r _ [838, 15, 33, 839, 389, 377, 378, 14, 379, 52, 172, 2, 173, 840, 841, 842, 32, 843, 101, 844, 845, 846, 847, 848, 849, 100, 850, 408, 409, 410, 54, 376, 851, 852, 853, 854, 855, 856, 857, 282, 283, 284, 48, 174, 175, 858, 181, 182, 183, 184, 185, 186, 187, 188, 189, 190, 191, 859, 193, 194, 195, 196, 197, 198, 199, 200, 201, 202, 203, 204, 205, 206, 207, 208, 209, 210, 211, 212, 213, 214, 215, 216, 217, 218, 219, 220, 221, 222, 223, 224, 225, 226, 227, 228, 967, 968, 969, 970, 971, 972, 973, 974, 975, 976, 977, 978, 1037, 1038, 1005, 1006, 1007, 1008, 1009, 1010, 1011, 1012, 1013, 1014] (by decide +kernel) (by decide +kernel)
set_option maxRecDepth 20000 in
theorem gL_law_X6_spell : GoodIn wsL_law (wsV RL 122 RX6 yX6_spell wsX6_spell) := goodIn_app (goodIn_of _ (by decide +kernel)) ggL_law_X6_spell
set_option maxRecDepth 20000 in
theorem ggL_law_X7_spell : GoodIn wsL_law wsX7_spell := goodIn_r _ [863, 864, 122, 121, 395, 396, 397, 5, 398, 112, 144, 145, 146, 399, 400, 401, 402, 865, 866, 867, 868, 126, 415, 416, 417, 418, 318, 319, 320, 321, 322, 323, 324, 325, 979, 980, 981, 982, 983, 984, 985, 986, 987, 988, 989, 990, 991, 992, 993, 994, 995, 996, 997, 998, 999, 1000, 1001, 1002, 1003, 1004] (by decide +kernel) (by decide +kernel)
set_option maxRecDepth 20000 in
theorem gL_law_X7_spell : GoodIn wsL_law (wsV RL 125 RX7 yX7_spell wsX7_spell) := goodIn_app (goodIn_of _ (by decide +kernel)) ggL_law_X7_spell
set_option maxRecDepth 20000 in
theorem ggL_law_X6_paper : GoodIn wsL_law wsX6_paper := goodIn_r _ [872, 33, 839, 873, 285, 172, 2, 173, 967, 968, 969, 970, 971, 972, 973, 974, 975, 976, 977, 978, 1037, 1038] (by decide +kernel) (by decide +kernel)
set_option maxRecDepth 20000 in
theorem gL_law_X6_paper : GoodIn wsL_law (wsV RL 126 RX6 yX6_paper wsX6_paper) := goodIn_app (goodIn_of _ (by decide +kernel)) ggL_law_X6_paper
set_option maxRecDepth 20000 in
theorem ggL_law_X7_paper : GoodIn wsL_law wsX7_paper := goodIn_r _ [877, 864, 126, 144, 145, 5, 146, 979, 980, 981, 982, 983, 984, 985, 986, 987, 988, 989, 990, 991, 992, 993, 994, 995, 996, 997, 998, 999, 1000, 1001, 1002, 1003, 1004] (by decide +kernel) (by decide +kernel)
set_option maxRecDepth 20000 in
theorem gL_law_X7_paper : GoodIn wsL_law (wsV RL 129 RX7 yX7_paper wsX7_paper) := goodIn_app (goodIn_of _ (by decide +kernel)) ggL_law_X7_paper
set_option maxRecDepth 20000 in
theorem ggL_law_X6_judge : GoodIn wsL_law wsX6_judge := goodIn_r _ [881, 37, 21, 786, 15, 285, 172, 2, 173, 787, 788, 789, 36, 790, 107, 457, 458, 459, 20, 460, 62, 461, 462, 463, 464, 465, 466, 467, 63, 468, 331, 332, 14, 333, 51, 334, 282, 283, 284, 48, 335, 336, 337, 338, 339, 340, 341, 342, 389, 377, 378, 379, 52, 469, 470, 471, 472, 473, 474, 475, 476, 477, 65, 66, 67, 68, 64, 69, 70, 478, 479, 408, 409, 410, 54, 376, 480, 481, 482, 483, 484, 553, 554, 555, 556, 557, 528, 529, 530, 531, 532, 533, 534, 535, 558, 537, 538, 539, 540, 492, 493, 796, 797, 798, 799, 106, 800, 801, 802, 803, 804, 967, 968, 969, 970, 971, 972, 973, 974, 975, 976, 977, 978, 1039, 1040, 1015, 1016, 1017, 1018, 1019, 1005, 1006, 1007, 1008, 1009, 1010, 1011, 1012, 1013, 1014] (by decide +kernel) (by decide +kernel)
set_option maxRecDepth 20000 in
theorem gL_law_X6_judge : GoodIn wsL_law (wsV RL 130 RX6 yX6_judge wsX6_judge) := goodIn_app (goodIn_of _ (by decide +kernel)) ggL_law_X6_judge
set_option maxRecDepth 20000 in
theorem ggL_law_X7_judge : GoodIn wsL_law wsX7_judge := goodIn_r _ [885, 128, 127, 809, 810, 5, 811, 812, 144, 145, 146, 437, 438, 439, 440, 395, 396, 397, 398, 112, 500, 501, 502, 503, 504, 505, 506, 507, 499, 114, 399, 400, 401, 402, 415, 416, 417, 418, 508, 509, 510, 511, 512, 350, 351, 352, 353, 302, 303, 304, 305, 318, 319, 320, 321, 322, 323, 324, 325, 354, 355, 356, 357, 563, 564, 565, 566, 293, 545, 546, 547, 548, 979, 980, 981, 982, 983, 984, 985, 986, 987, 988, 989, 990, 991, 992, 993, 994, 995, 996, 997, 998, 999, 1000, 1001, 1002, 1003, 1004] (by decide +kernel) (by decide +kernel)
set_option maxRecDepth 20000 in
theorem gL_law_X7_judge : GoodIn wsL_law (wsV RL 133 RX7 yX7_judge wsX7_judge) := goodIn_app (goodIn_of _ (by decide +kernel)) ggL_law_X7_judge
set_option maxRecDepth 20000 in
theorem ggL_law_X6_change : GoodIn wsL_law wsX6_change := goodIn_r _ [889, 37, 786, 285, 172, 2, 173, 787, 788, 789, 36, 790, 107, 796, 797, 798, 799, 106, 800, 801, 802, 803, 804, 890, 277, 278, 279, 15, 280, 281, 282, 283, 14, 284, 48, 286, 287, 288, 967, 968, 969, 970, 971, 972, 973, 974, 975, 976, 977, 978, 1039, 1040, 1005, 1006, 1007, 1008, 1009, 1010, 1011, 1012, 1013, 1014] (by decide +kernel) (by decide +kernel)
set_option maxRecDepth 20000 in
theorem gL_law_X6_change : GoodIn wsL_law (wsV RL 134 RX6 yX6_change wsX6_change) := goodIn_app (goodIn_of _ (by decide +kernel)) ggL_law_X6_change
set_option maxRecDepth 20000 in
theorem ggL_law_X7_change : GoodIn wsL_law wsX7_change := goodIn_r _ [894, 128, 127, 809, 810, 5, 811, 812, 144, 145, 146, 895, 290, 291, 292, 293, 112, 294, 295, 296, 297, 298, 299, 300, 301, 302, 303, 304, 305, 979, 980, 981, 982, 983, 984, 985, 986, 987, 988, 989, 990, 991, 992, 993, 994, 995, 996, 997, 998, 999, 1000, 1001, 1002, 1003, 1004] (by decide +kernel) (by decide +kernel)
set_option maxRecDepth 20000 in
theorem gL_law_X7_change : GoodIn wsL_law (wsV RL 137 RX7 yX7_change wsX7_change) := goodIn_app (goodIn_of _ (by decide +kernel)) ggL_law_X7_change
set_option maxRecDepth 20000 in
theorem ggL_law_X6_list : GoodIn wsL_law wsX6_list := goodIn_r _ [899, 37, 285, 172, 2, 173, 900, 901, 902, 36, 903, 106, 107, 967, 968, 969, 970, 971, 972, 973, 974, 975, 976, 977, 978, 1039, 1040] (by decide +kernel) (by decide +kernel)
set_option maxRecDepth 20000 in
theorem gL_law_X6_list : GoodIn wsL_law (wsV RL 138 RX6 yX6_list wsX6_list) := goodIn_app (goodIn_of _ (by decide +kernel)) ggL_law_X6_list
set_option maxRecDepth 20000 in
theorem ggL_law_X7_list : GoodIn wsL_law wsX7_list := goodIn_r _ [907, 128, 127, 809, 810, 5, 811, 812, 144, 145, 146, 979, 980, 981, 982, 983, 984, 985, 986, 987, 988, 989, 990, 991, 992, 993, 994, 995, 996, 997, 998, 999, 1000, 1001, 1002, 1003, 1004] (by decide +kernel) (by decide +kernel)
set_option maxRecDepth 20000 in
theorem gL_law_X7_list : GoodIn wsL_law (wsV RL 141 RX7 yX7_list wsX7_list) := goodIn_app (goodIn_of _ (by decide +kernel)) ggL_law_X7_list
set_option maxRecDepth 20000 in
theorem ggL_law_X6_put : GoodIn wsL_law wsX6_put := goodIn_r _ [911, 37, 912, 285, 172, 2, 173, 787, 788, 789, 36, 790, 107, 913, 801, 802, 803, 804, 967, 968, 969, 970, 971, 972, 973, 974, 975, 976, 977, 978, 1039, 1040] (by decide +kernel) (by decide +kernel)
set_option maxRecDepth 20000 in
theorem gL_law_X6_put : GoodIn wsL_law (wsV RL 142 RX6 yX6_put wsX6_put) := goodIn_app (goodIn_of _ (by decide +kernel)) ggL_law_X6_put
set_option maxRecDepth 20000 in
theorem ggL_law_X7_put : GoodIn wsL_law wsX7_put := goodIn_r _ [917, 128, 127, 809, 810, 5, 811, 812, 144, 145, 146, 979, 980, 981, 982, 983, 984, 985, 986, 987, 988, 989, 990, 991, 992, 993, 994, 995, 996, 997, 998, 999, 1000, 1001, 1002, 1003, 1004] (by decide +kernel) (by decide +kernel)
set_option maxRecDepth 20000 in
theorem gL_law_X7_put : GoodIn wsL_law (wsV RL 145 RX7 yX7_put wsX7_put) := goodIn_app (goodIn_of _ (by decide +kernel)) ggL_law_X7_put
set_option maxRecDepth 20000 in
theorem ggL_law_X6_get : GoodIn wsL_law wsX6_get := goodIn_r _ [921, 37, 454, 285, 172, 2, 173, 913, 801, 802, 36, 803, 107, 804, 788, 789, 790, 796, 797, 798, 799, 106, 800, 967, 968, 969, 970, 971, 972, 973, 974, 975, 976, 977, 978, 1039, 1040] (by decide +kernel) (by decide +kernel)
set_option maxRecDepth 20000 in
theorem gL_law_X6_get : GoodIn wsL_law (wsV RL 146 RX6 yX6_get wsX6_get) := goodIn_app (goodIn_of _ (by decide +kernel)) ggL_law_X6_get
set_option maxRecDepth 20000 in
theorem ggL_law_X7_get : GoodIn wsL_law wsX7_get := goodIn_r _ [925, 128, 127, 498, 809, 810, 5, 811, 812, 144, 145, 146, 979, 980, 981, 982, 983, 984, 985, 986, 987, 988, 989, 990, 991, 992, 993, 994, 995, 996, 997, 998, 999, 1000, 1001, 1002, 1003, 1004] (by decide +kernel) (by decide +kernel)
set_option maxRecDepth 20000 in
theorem gL_law_X7_get : GoodIn wsL_law (wsV RL 150 RX7 yX7_get wsX7_get) := goodIn_app (goodIn_of _ (by decide +kernel)) ggL_law_X7_get
set_option maxRecDepth 20000 in
theorem ggL_law_X6_image : GoodIn wsL_law wsX6_image := goodIn_r _ [929, 16, 15, 17, 151, 930, 931, 932, 14, 933, 48, 49, 50, 51, 52, 53, 54, 55, 56, 57, 934, 935, 936, 967, 968, 969, 970, 971, 972, 973, 974, 975, 976, 977, 978, 1005, 1006, 1007, 1008, 1009, 1010, 1011, 1012, 1013, 1014] (by decide +kernel) (by decide +kernel)
set_option maxRecDepth 20000 in
theorem gL_law_X6_image : GoodIn wsL_law (wsV RL 151 RX6 yX6_image wsX6_image) := goodIn_app (goodIn_of _ (by decide +kernel)) ggL_law_X6_image
set_option maxRecDepth 20000 in
theorem ggL_law_X7_image : GoodIn wsL_law wsX7_image := goodIn_r _ [940, 113, 112, 941, 979, 980, 981, 982, 983, 984, 985, 986, 987, 988, 989, 990, 991, 992, 993, 994, 995, 996, 997, 998, 999, 1000, 1001, 1002, 1003, 1004] (by decide +kernel) (by decide +kernel)
set_option maxRecDepth 20000 in
theorem gL_law_X7_image : GoodIn wsL_law (wsV RL 154 RX7 yX7_image wsX7_image) := goodIn_app (goodIn_of _ (by decide +kernel)) ggL_law_X7_image
set_option maxRecDepth 20000 in
theorem ggL_law_X6_undo : GoodIn wsL_law wsX6_undo := goodIn_r _ [945, 17, 15, 16, 151, 930, 931, 932, 14, 933, 48, 49, 50, 51, 52, 53, 54, 55, 56, 57, 934, 935, 936, 967, 968, 969, 970, 971, 972, 973, 974, 975, 976, 977, 978, 1005, 1006, 1007, 1008, 1009, 1010, 1011, 1012, 1013, 1014] (by decide +kernel) (by decide +kernel)
set_option maxRecDepth 20000 in
theorem gL_law_X6_undo : GoodIn wsL_law (wsV RL 155 RX6 yX6_undo wsX6_undo) := goodIn_app (goodIn_of _ (by decide +kernel)) ggL_law_X6_undo
set_option maxRecDepth 20000 in
theorem ggL_law_X7_undo : GoodIn wsL_law wsX7_undo := goodIn_r _ [949, 941, 112, 113, 979, 980, 981, 982, 983, 984, 985, 986, 987, 988, 989, 990, 991, 992, 993, 994, 995, 996, 997, 998, 999, 1000, 1001, 1002, 1003, 1004] (by decide +kernel) (by decide +kernel)
set_option maxRecDepth 20000 in
theorem gL_law_X7_undo : GoodIn wsL_law (wsV RL 158 RX7 yX7_undo wsX7_undo) := goodIn_app (goodIn_of _ (by decide +kernel)) ggL_law_X7_undo
set_option maxRecDepth 20000 in
theorem ggL_law_X6_count : GoodIn wsL_law wsX6_count := goodIn_r _ [953, 15, 151, 595, 29, 133, 33, 839, 632, 954, 955, 956, 14, 957, 52, 53, 285, 172, 2, 173, 967, 968, 969, 970, 971, 972, 973, 974, 975, 976, 977, 978, 1005, 1006, 1007, 1008, 1009, 1010, 1011, 1012, 1013, 1014, 1028, 1029, 1030, 1031, 1032, 1033, 1034, 1035, 1036, 1037, 1038] (by decide +kernel) (by decide +kernel)
set_option maxRecDepth 20000 in
theorem gL_law_X6_count : GoodIn wsL_law (wsV RL 159 RX6 yX6_count wsX6_count) := goodIn_app (goodIn_of _ (by decide +kernel)) ggL_law_X6_count
set_option maxRecDepth 20000 in
theorem ggL_law_X7_count : GoodIn wsL_law wsX7_count := goodIn_r _ [961, 112, 143, 864, 316, 962, 963, 964, 965, 5, 966, 399, 400, 401, 402, 144, 145, 146, 979, 980, 981, 982, 983, 984, 985, 986, 987, 988, 989, 990, 991, 992, 993, 994, 995, 996, 997, 998, 999, 1000, 1001, 1002, 1003, 1004] (by decide +kernel) (by decide +kernel)
set_option maxRecDepth 20000 in
theorem gL_law_X7_count : GoodIn wsL_law (wsV RL 162 RX7 yX7_count wsX7_count) := goodIn_app (goodIn_of _ (by decide +kernel)) ggL_law_X7_count
