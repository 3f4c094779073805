set_option maxRecDepth 20000 in
theorem gL_law_X8_wedding : GoodIn wsL_law (wsV RL 132 RX8 yX8_wedding wsX8_wedding) := goodIn_app (goodIn_of _ (by decide +kernel)) ggL_law_X8_wedding
set_option maxRecDepth 20000 in
theorem ggL_law_X9_wedding : GoodIn wsL_law wsX9_wedding := goodIn_r _ [705, 100, 302, 303, 5, 304, 305, 133, 134, 135, 442, 443, 444, 551, 552, 553, 554, 114, 112, 113, 555, 556, 557, 558, 514, 101, 102, 103, 823, 824, 825, 826, 827, 828, 829, 830, 831, 832, 833, 834, 835, 836, 837, 838, 839, 840, 841, 842, 843, 844, 845, 846, 847, 848, 849, 850] (by decide +kernel) (by decide +kernel)
set_option maxRecDepth 20000 in
theorem gL_law_X9_wedding : GoodIn wsL_law (wsV RL 135 RX9 yX9_wedding wsX9_wedding) := goodIn_app (goodIn_of _ (by decide +kernel)) ggL_law_X9_wedding
set_option maxRecDepth 20000 in
theorem ggL_law_X8_late : GoodIn wsL_law wsX8_late := goodIn_r _ [709, 20, 427, 258, 259, 2, 260, 476, 477, 229, 478, 231, 479, 710, 296, 297, 431, 337, 338, 711, 712, 713, 19, 714, 56, 57, 715, 716, 717, 718, 463, 261, 262, 263, 264, 211, 38, 40, 265, 266, 267, 53, 268, 240, 68, 62, 64, 269, 270, 271, 272, 37, 273, 274, 275, 276, 277, 278, 279, 280, 281, 282, 283, 284, 285, 286, 287, 288, 289, 290, 67, 65, 347, 673, 233, 234, 235, 368, 369, 370, 371, 349, 350, 351, 352, 353, 354, 432, 433, 434, 435, 436, 437, 813, 814, 815, 816, 817, 818, 819, 820, 821, 822, 853, 854, 855, 856, 857, 872, 873, 874, 875, 876, 877, 869, 870, 871] (by decide +kernel) (by decide +kernel)
set_option maxRecDepth 20000 in
theorem gL_law_X8_late : GoodIn wsL_law (wsV RL 136 RX8 yX8_late wsX8_late) := goodIn_app (goodIn_of _ (by decide +kernel)) ggL_law_X8_late
set_option maxRecDepth 20000 in
theorem ggL_law_X9_late : GoodIn wsL_law wsX9_late := goodIn_r _ [722, 253, 100, 106, 107, 99, 302, 303, 5, 304, 305, 133, 134, 135, 360, 361, 362, 363, 115, 306, 307, 308, 309, 310, 97, 96, 311, 312, 313, 314, 823, 824, 825, 826, 827, 828, 829, 830, 831, 832, 833, 834, 835, 836, 837, 838, 839, 840, 841, 842, 843, 844, 845, 846, 847, 848, 849, 850] (by decide +kernel) (by decide +kernel)
set_option maxRecDepth 20000 in
theorem gL_law_X9_late : GoodIn wsL_law (wsV RL 139 RX9 yX9_late wsX9_late) := goodIn_app (goodIn_of _ (by decide +kernel)) ggL_law_X9_late
set_option maxRecDepth 20000 in
theorem ggL_law_X8_fines : GoodIn wsL_law wsX8_fines := goodIn_r _ [726, 20, 727, 728, 428, 429, 2, 430, 813, 814, 815, 816, 817, 818, 819, 820, 821, 822, 853, 854, 855, 856, 857] (by decide +kernel) (by decide +kernel)
set_option maxRecDepth 20000 in
theorem gL_law_X8_fines : GoodIn wsL_law (wsV RL 140 RX8 yX8_fines wsX8_fines) := goodIn_app (goodIn_of _ (by decide +kernel)) ggL_law_X8_fines
set_option maxRecDepth 20000 in
theorem ggL_law_X9_fines : GoodIn wsL_law wsX9_fines := goodIn_r _ [732, 107, 106, 442, 443, 5, 444, 133, 134, 135, 823, 824, 825, 826, 827, 828, 829, 830, 831, 832, 833, 834, 835, 836, 837, 838, 839, 840, 841, 842, 843, 844, 845, 846, 847, 848, 849, 850] (by decide +kernel) (by decide +kernel)
set_option maxRecDepth 20000 in
theorem gL_law_X9_fines : GoodIn wsL_law (wsV RL 144 RX9 yX9_fines wsX9_fines) := goodIn_app (goodIn_of _ (by decide +kernel)) ggL_law_X9_fines
set_option maxRecDepth 20000 in
theorem ggL_law_X8_move : GoodIn wsL_law wsX8_move := goodIn_r _ [736, 462, 261, 262, 263, 2, 264, 20, 211, 38, 40, 265, 266, 267, 53, 268, 240, 68, 62, 64, 269, 270, 271, 272, 37, 273, 274, 275, 276, 277, 278, 279, 280, 281, 282, 283, 284, 285, 286, 287, 288, 289, 290, 67, 65, 737, 738, 739, 740, 348, 349, 350, 351, 352, 353, 354, 869, 870, 871, 813, 814, 815, 816, 817, 818, 819, 820, 821, 822, 853, 854, 855, 856, 857, 872, 873, 874, 875, 876, 877] (by decide +kernel) (by decide +kernel)
set_option maxRecDepth 20000 in
theorem gL_law_X8_move : GoodIn wsL_law (wsV RL 145 RX8 yX8_move wsX8_move) := goodIn_app (goodIn_of _ (by decide +kernel)) ggL_law_X8_move
set_option maxRecDepth 20000 in
theorem ggL_law_X9_move : GoodIn wsL_law wsX9_move := goodIn_r _ [744, 253, 99, 133, 134, 5, 135, 360, 361, 362, 363, 115, 306, 307, 308, 309, 310, 97, 96, 311, 312, 313, 314, 610, 611, 612, 613, 823, 824, 825, 826, 827, 828, 829, 830, 831, 832, 833, 834, 835, 836, 837, 838, 839, 840, 841, 842, 843, 844, 845, 846, 847, 848, 849, 850] (by decide +kernel) (by decide +kernel)
set_option maxRecDepth 20000 in
theorem gL_law_X9_move : GoodIn wsL_law (wsV RL 148 RX9 yX9_move wsX9_move) := goodIn_app (goodIn_of _ (by decide +kernel)) ggL_law_X9_move
set_option maxRecDepth 20000 in
theorem ggL_law_X8_then : GoodIn wsL_law wsX8_then := goodIn_r _ [748, 30, 26, 461, 462, 463, 563, 737, 738, 2, 739, 740, 261, 262, 263, 264, 20, 211, 38, 40, 265, 266, 267, 53, 268, 240, 68, 62, 64, 269, 270, 271, 272, 37, 273, 274, 275, 276, 277, 278, 279, 280, 281, 282, 283, 284, 285, 286, 287, 288, 289, 290, 67, 65, 568, 569, 570, 29, 571, 81, 82, 572, 573, 574, 575, 576, 577, 578, 579, 580, 581, 582, 296, 229, 297, 583, 544, 545, 25, 546, 76, 584, 585, 586, 587, 588, 589, 590, 591, 592, 593, 594, 595, 596, 813, 814, 815, 816, 817, 818, 819, 820, 821, 822, 869, 870, 871, 863, 864, 865, 866, 853, 854, 855, 856, 857, 872, 873, 874, 875, 876, 877, 858, 859, 860, 861, 862] (by decide +kernel) (by decide +kernel)
set_option maxRecDepth 20000 in
theorem gL_law_X8_then : GoodIn wsL_law (wsV RL 149 RX8 yX8_then wsX8_then) := goodIn_app (goodIn_of _ (by decide +kernel)) ggL_law_X8_then
set_option maxRecDepth 20000 in
theorem ggL_law_X9_then : GoodIn wsL_law wsX9_then := goodIn_r _ [752, 253, 133, 134, 5, 135, 601, 602, 603, 604, 104, 112, 605, 105, 360, 361, 362, 363, 99, 115, 306, 307, 308, 309, 310, 97, 96, 311, 312, 313, 314, 606, 607, 608, 609, 114, 113, 610, 611, 612, 613, 555, 556, 557, 558, 514, 101, 102, 103, 823, 824, 825, 826, 827, 828, 829, 830, 831, 832, 833, 834, 835, 836, 837, 838, 839, 840, 841, 842, 843, 844, 845, 846, 847, 848, 849, 850] (by decide +kernel) (by decide +kernel)
set_option maxRecDepth 20000 in
theorem gL_law_X9_then : GoodIn wsL_law (wsV RL 152 RX9 yX9_then wsX9_then) := goodIn_app (goodIn_of _ (by decide +kernel)) ggL_law_X9_then
set_option maxRecDepth 20000 in
theorem ggL_law_X8_together : GoodIn wsL_law wsX8_together := goodIn_r _ [756, 757, 211, 39, 40, 461, 462, 758, 759, 2, 760, 761, 762, 763, 764, 21, 22, 261, 262, 263, 264, 20, 38, 265, 266, 267, 53, 268, 240, 68, 62, 64, 269, 270, 271, 272, 37, 273, 274, 275, 276, 277, 278, 279, 280, 281, 282, 283, 284, 285, 286, 287, 288, 289, 290, 67, 65, 348, 349, 350, 351, 352, 353, 354, 853, 854, 855, 856, 857, 813, 814, 815, 816, 817, 818, 819, 820, 821, 822, 869, 870, 871, 872, 873, 874, 875, 876, 877] (by decide +kernel) (by decide +kernel)
set_option maxRecDepth 20000 in
theorem gL_law_X8_together : GoodIn wsL_law (wsV RL 153 RX8 yX8_together wsX8_together) := goodIn_app (goodIn_of _ (by decide +kernel)) ggL_law_X8_together
set_option maxRecDepth 20000 in
theorem ggL_law_X9_together : GoodIn wsL_law wsX9_together := goodIn_r _ [768, 108, 115, 133, 134, 5, 135, 306, 307, 308, 309, 310, 97, 96, 311, 312, 313, 314, 823, 824, 825, 826, 827, 828, 829, 830, 831, 832, 833, 834, 835, 836, 837, 838, 839, 840, 841, 842, 843, 844, 845, 846, 847, 848, 849, 850] (by decide +kernel) (by decide +kernel)
set_option maxRecDepth 20000 in
theorem gL_law_X9_together : GoodIn wsL_law (wsV RL 156 RX9 yX9_together wsX9_together) := goodIn_app (goodIn_of _ (by decide +kernel)) ggL_law_X9_together
set_option maxRecDepth 20000 in
theorem ggL_law_X8_years : GoodIn wsL_law wsX8_years := goodIn_r _ [772, 773, 774, 775, 2, 776, 20, 211, 39, 461, 462, 265, 266, 267, 53, 268, 240, 68, 62, 64, 269, 270, 271, 272, 37, 273, 274, 275, 276, 277, 278, 279, 280, 281, 282, 283, 284, 285, 286, 287, 288, 289, 290, 67, 65, 348, 349, 350, 351, 352, 353, 354, 813, 814, 815, 816, 817, 818, 819, 820, 821, 822, 853, 854, 855, 856, 857, 869, 870, 871, 872, 873, 874, 875, 876, 877] (by decide +kernel) (by decide +kernel)
set_option maxRecDepth 20000 in
theorem gL_law_X8_years : GoodIn wsL_law (wsV RL 157 RX8 yX8_years wsX8_years) := goodIn_app (goodIn_of _ (by decide +kernel)) ggL_law_X8_years
set_option maxRecDepth 20000 in
theorem ggL_law_X9_years : GoodIn wsL_law wsX9_years := goodIn_r _ [780, 306, 307, 308, 5, 309, 310, 97, 96, 311, 312, 313, 314, 133, 134, 135, 823, 824, 825, 826, 827, 828, 829, 830, 831, 832, 833, 834, 835, 836, 837, 838, 839, 840, 841, 842, 843, 844, 845, 846, 847, 848, 849, 850] (by decide +kernel) (by decide +kernel)
set_option maxRecDepth 20000 in
theorem gL_law_X9_years : GoodIn wsL_law (wsV RL 160 RX9 yX9_years wsX9_years) := goodIn_app (goodIn_of _ (by decide +kernel)) ggL_law_X9_years
set_option maxRecDepth 20000 in
theorem ggL_law_X8_keep : GoodIn wsL_law wsX8_keep := goodIn_r _ [784, 20, 757, 211, 212, 758, 759, 2, 760, 761, 762, 763, 764, 21, 22, 785, 786, 787, 19, 788, 54, 436, 56, 57, 789, 790, 791, 53, 792, 240, 62, 64, 65, 67, 68, 813, 814, 815, 816, 817, 818, 819, 820, 821, 822, 853, 854, 855, 856, 857, 872, 873, 874, 875, 876, 877] (by decide +kernel) (by decide +kernel)
set_option maxRecDepth 20000 in
theorem gL_law_X8_keep : GoodIn wsL_law (wsV RL 161 RX8 yX8_keep wsX8_keep) := goodIn_app (goodIn_of _ (by decide +kernel)) ggL_law_X8_keep
set_option maxRecDepth 20000 in
theorem ggL_law_X9_keep : GoodIn wsL_law wsX9_keep := goodIn_r _ [796, 108, 97, 96, 109, 100, 110, 106, 111, 107, 133, 134, 5, 135, 823, 824, 825, 826, 827, 828, 829, 830, 831, 832, 833, 834, 835, 836, 837, 838, 839, 840, 841, 842, 843, 844, 845, 846, 847, 848, 849, 850] (by decide +kernel) (by decide +kernel)
set_option maxRecDepth 20000 in
theorem gL_law_X9_keep : GoodIn wsL_law (wsV RL 164 RX9 yX9_keep wsX9_keep) := goodIn_app (goodIn_of _ (by decide +kernel)) ggL_law_X9_keep
set_option maxRecDepth 20000 in
theorem ggL_law_X8_again : GoodIn wsL_law wsX8_again := goodIn_r _ [800, 757, 20, 211, 212, 758, 759, 2, 760, 761, 762, 763, 764, 21, 22, 785, 786, 787, 19, 788, 54, 436, 56, 57, 789, 790, 791, 53, 792, 240, 62, 64, 65, 67, 68, 853, 854, 855, 856, 857, 813, 814, 815, 816, 817, 818, 819, 820, 821, 822, 872, 873, 874, 875, 876, 877] (by decide +kernel) (by decide +kernel)
set_option maxRecDepth 20000 in
theorem gL_law_X8_again : GoodIn wsL_law (wsV RL 165 RX8 yX8_again wsX8_again) := goodIn_app (goodIn_of _ (by decide +kernel)) ggL_law_X8_again
set_option maxRecDepth 20000 in
theorem ggL_law_X9_again : GoodIn wsL_law wsX9_again := goodIn_r _ [804, 108, 97, 96, 100, 109, 106, 110, 107, 111, 133, 134, 5, 135, 823, 824, 825, 826, 827, 828, 829, 830, 831, 832, 833, 834, 835, 836, 837, 838, 839, 840, 841, 842, 843, 844, 845, 846, 847, 848, 849, 850] (by decide +kernel) (by decide +kernel)
set_option maxRecDepth 20000 in
theorem gL_law_X9_again : GoodIn wsL_law (wsV RL 168 RX9 yX9_again wsX9_again) := goodIn_app (goodIn_of _ (by decide +kernel)) ggL_law_X9_again
set_option maxRecDepth 20000 in
theorem ggL_law_X8_count : GoodIn wsL_law wsX8_count := goodIn_r _ [808, 16, 120, 20, 211, 212, 26, 504, 457, 458, 459, 2, 460, 461, 427, 462, 463, 261, 262, 263, 264, 38, 40, 265, 266, 267, 53, 268, 240, 68, 62, 64, 269, 270, 271, 272, 37, 273, 274, 275, 276, 277, 278, 279, 280, 281, 282, 283, 284, 285, 286, 287, 288, 289, 290, 67, 65, 348, 349, 350, 351, 352, 353, 354, 813, 814, 815, 816, 817, 818, 819, 820, 821, 822, 851, 852, 853, 854, 855, 856, 857, 872, 873, 874, 875, 876, 877, 858, 859, 860, 861, 862, 869, 870, 871] (by decide +kernel) (by decide +kernel)
set_option maxRecDepth 20000 in
theorem gL_law_X8_count : GoodIn wsL_law (wsV RL 169 RX8 yX8_count wsX8_count) := goodIn_app (goodIn_of _ (by decide +kernel)) ggL_law_X8_count
set_option maxRecDepth 20000 in
theorem ggL_law_X9_count : GoodIn wsL_law wsX9_count := goodIn_r _ [812, 99, 100, 131, 97, 514, 360, 361, 362, 5, 363, 115, 306, 307, 308, 309, 310, 96, 311, 312, 313, 314, 133, 134, 135, 823, 824, 825, 826, 827, 828, 829, 830, 831, 832, 833, 834, 835, 836, 837, 838, 839, 840, 841, 842, 843, 844, 845, 846, 847, 848, 849, 850] (by decide +kernel) (by decide +kernel)
set_option maxRecDepth 20000 in
theorem gL_law_X9_count : GoodIn wsL_law (wsV RL 172 RX9 yX9_count wsX9_count) := goodIn_app (goodIn_of _ (by decide +kernel)) ggL_law_X9_count
