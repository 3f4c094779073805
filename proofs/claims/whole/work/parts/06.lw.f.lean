set_option maxRecDepth 20000 in
theorem gL_law_X9_nights : GoodIn wsL_law (wsV RL 54 RX9 yX9_nights wsX9_nights) := goodIn_app (goodIn_of _ (by decide +kernel)) ggL_law_X9_nights
set_option maxRecDepth 20000 in
theorem ggL_law_X8_night : GoodIn wsL_law wsX8_night := goodIn_r _ [367, 261, 262, 263, 2, 264, 20, 211, 38, 40, 265, 266, 267, 53, 268, 240, 68, 62, 64, 269, 270, 271, 272, 37, 273, 274, 275, 276, 277, 278, 279, 280, 281, 282, 283, 284, 285, 286, 287, 288, 289, 290, 67, 65, 347, 368, 369, 229, 370, 371, 349, 350, 351, 352, 353, 354, 813, 814, 815, 816, 817, 818, 819, 820, 821, 822, 853, 854, 855, 856, 857, 872, 873, 874, 875, 876, 877, 869, 870, 871] (by decide +kernel) (by decide +kernel)
set_option maxRecDepth 20000 in
theorem gL_law_X8_night : GoodIn wsL_law (wsV RL 55 RX8 yX8_night wsX8_night) := goodIn_app (goodIn_of _ (by decide +kernel)) ggL_law_X8_night
set_option maxRecDepth 20000 in
theorem ggL_law_X9_night : GoodIn wsL_law wsX9_night := goodIn_r _ [375, 359, 99, 133, 134, 5, 135, 360, 361, 362, 363, 115, 306, 307, 308, 309, 310, 97, 96, 311, 312, 313, 314, 823, 824, 825, 826, 827, 828, 829, 830, 831, 832, 833, 834, 835, 836, 837, 838, 839, 840, 841, 842, 843, 844, 845, 846, 847, 848, 849, 850] (by decide +kernel) (by decide +kernel)
set_option maxRecDepth 20000 in
theorem gL_law_X9_night : GoodIn wsL_law (wsV RL 58 RX9 yX9_night wsX9_night) := goodIn_app (goodIn_of _ (by decide +kernel)) ggL_law_X9_night
set_option maxRecDepth 20000 in
theorem ggL_law_X8_mend : GoodIn wsL_law wsX8_mend := goodIn_r _ [379, 34, 20, 211, 40, 39, 380, 261, 262, 263, 2, 264, 38, 265, 266, 267, 53, 268, 240, 68, 62, 64, 269, 270, 271, 272, 37, 273, 274, 275, 276, 277, 278, 279, 280, 281, 282, 283, 284, 285, 286, 287, 288, 289, 290, 67, 65, 381, 382, 383, 33, 384, 385, 386, 387, 388, 389, 390, 391, 392, 393, 394, 395, 396, 397, 398, 399, 400, 401, 349, 350, 351, 352, 353, 354, 813, 814, 815, 816, 817, 818, 819, 820, 821, 822, 853, 854, 855, 856, 857, 867, 868, 872, 873, 874, 875, 876, 877, 869, 870, 871] (by decide +kernel) (by decide +kernel)
set_option maxRecDepth 20000 in
theorem gL_law_X8_mend : GoodIn wsL_law (wsV RL 59 RX8 yX8_mend wsX8_mend) := goodIn_app (goodIn_of _ (by decide +kernel)) ggL_law_X8_mend
set_option maxRecDepth 20000 in
theorem ggL_law_X9_mend : GoodIn wsL_law wsX9_mend := goodIn_r _ [405, 406, 407, 408, 5, 409, 410, 97, 99, 115, 360, 361, 362, 363, 306, 307, 308, 309, 310, 96, 311, 312, 313, 314, 133, 134, 135, 411, 412, 413, 823, 824, 825, 826, 827, 828, 829, 830, 831, 832, 833, 834, 835, 836, 837, 838, 839, 840, 841, 842, 843, 844, 845, 846, 847, 848, 849, 850] (by decide +kernel) (by decide +kernel)
set_option maxRecDepth 20000 in
theorem gL_law_X9_mend : GoodIn wsL_law (wsV RL 62 RX9 yX9_mend wsX9_mend) := goodIn_app (goodIn_of _ (by decide +kernel)) ggL_law_X9_mend
set_option maxRecDepth 20000 in
theorem ggL_law_X8_changes : GoodIn wsL_law wsX8_changes := goodIn_r _ [417, 34, 20, 211, 40, 39, 418, 261, 262, 263, 2, 264, 38, 265, 266, 267, 53, 268, 240, 68, 62, 64, 269, 270, 271, 272, 37, 273, 274, 275, 276, 277, 278, 279, 280, 281, 282, 283, 284, 285, 286, 287, 288, 289, 290, 67, 65, 381, 382, 383, 33, 384, 385, 386, 387, 388, 389, 390, 391, 392, 393, 394, 395, 396, 397, 398, 399, 400, 401, 349, 350, 351, 352, 353, 354, 813, 814, 815, 816, 817, 818, 819, 820, 821, 822, 853, 854, 855, 856, 857, 867, 868, 872, 873, 874, 875, 876, 877, 869, 870, 871] (by decide +kernel) (by decide +kernel)
set_option maxRecDepth 20000 in
theorem gL_law_X8_changes : GoodIn wsL_law (wsV RL 63 RX8 yX8_changes wsX8_changes) := goodIn_app (goodIn_of _ (by decide +kernel)) ggL_law_X8_changes
set_option maxRecDepth 20000 in
theorem ggL_law_X9_changes : GoodIn wsL_law wsX9_changes := goodIn_r _ [422, 410, 406, 407, 408, 5, 409, 97, 99, 115, 360, 361, 362, 363, 306, 307, 308, 309, 310, 96, 311, 312, 313, 314, 133, 134, 135, 411, 412, 413, 823, 824, 825, 826, 827, 828, 829, 830, 831, 832, 833, 834, 835, 836, 837, 838, 839, 840, 841, 842, 843, 844, 845, 846, 847, 848, 849, 850] (by decide +kernel) (by decide +kernel)
set_option maxRecDepth 20000 in
theorem gL_law_X9_changes : GoodIn wsL_law (wsV RL 66 RX9 yX9_changes wsX9_changes) := goodIn_app (goodIn_of _ (by decide +kernel)) ggL_law_X9_changes
set_option maxRecDepth 20000 in
theorem ggL_law_X8_put : GoodIn wsL_law wsX8_put := goodIn_r _ [426, 20, 427, 258, 259, 2, 260, 428, 429, 430, 431, 337, 229, 338, 432, 433, 434, 19, 435, 436, 437, 813, 814, 815, 816, 817, 818, 819, 820, 821, 822, 853, 854, 855, 856, 857] (by decide +kernel) (by decide +kernel)
set_option maxRecDepth 20000 in
theorem gL_law_X8_put : GoodIn wsL_law (wsV RL 67 RX8 yX8_put wsX8_put) := goodIn_app (goodIn_of _ (by decide +kernel)) ggL_law_X8_put
set_option maxRecDepth 20000 in
theorem ggL_law_X9_put : GoodIn wsL_law wsX9_put := goodIn_r _ [441, 100, 302, 303, 5, 304, 305, 133, 134, 135, 442, 443, 444, 823, 824, 825, 826, 827, 828, 829, 830, 831, 832, 833, 834, 835, 836, 837, 838, 839, 840, 841, 842, 843, 844, 845, 846, 847, 848, 849, 850] (by decide +kernel) (by decide +kernel)
set_option maxRecDepth 20000 in
theorem gL_law_X9_put : GoodIn wsL_law (wsV RL 70 RX9 yX9_put wsX9_put) := goodIn_app (goodIn_of _ (by decide +kernel)) ggL_law_X9_put
set_option maxRecDepth 20000 in
theorem ggL_law_X8_at : GoodIn wsL_law wsX8_at := goodIn_r _ [448, 20, 427, 258, 259, 2, 260, 431, 337, 229, 338, 813, 814, 815, 816, 817, 818, 819, 820, 821, 822, 853, 854, 855, 856, 857] (by decide +kernel) (by decide +kernel)
set_option maxRecDepth 20000 in
theorem gL_law_X8_at : GoodIn wsL_law (wsV RL 71 RX8 yX8_at wsX8_at) := goodIn_app (goodIn_of _ (by decide +kernel)) ggL_law_X8_at
set_option maxRecDepth 20000 in
theorem ggL_law_X9_at : GoodIn wsL_law wsX9_at := goodIn_r _ [452, 100, 302, 303, 5, 304, 305, 133, 134, 135, 823, 824, 825, 826, 827, 828, 829, 830, 831, 832, 833, 834, 835, 836, 837, 838, 839, 840, 841, 842, 843, 844, 845, 846, 847, 848, 849, 850] (by decide +kernel) (by decide +kernel)
set_option maxRecDepth 20000 in
theorem gL_law_X9_at : GoodIn wsL_law (wsV RL 74 RX9 yX9_at wsX9_at) := goodIn_app (goodIn_of _ (by decide +kernel)) ggL_law_X9_at
set_option maxRecDepth 20000 in
theorem ggL_law_X8_judge : GoodIn wsL_law wsX8_judge := goodIn_r _ [456, 457, 458, 459, 2, 460, 461, 20, 427, 462, 463, 261, 262, 263, 264, 211, 38, 40, 265, 266, 267, 53, 268, 240, 68, 62, 64, 269, 270, 271, 272, 37, 273, 274, 275, 276, 277, 278, 279, 280, 281, 282, 283, 284, 285, 286, 287, 288, 289, 290, 67, 65, 368, 369, 229, 370, 371, 349, 350, 351, 352, 353, 354, 869, 870, 871, 813, 814, 815, 816, 817, 818, 819, 820, 821, 822, 853, 854, 855, 856, 857, 872, 873, 874, 875, 876, 877] (by decide +kernel) (by decide +kernel)
set_option maxRecDepth 20000 in
theorem gL_law_X8_judge : GoodIn wsL_law (wsV RL 75 RX8 yX8_judge wsX8_judge) := goodIn_app (goodIn_of _ (by decide +kernel)) ggL_law_X8_judge
set_option maxRecDepth 20000 in
theorem ggL_law_X9_judge : GoodIn wsL_law wsX9_judge := goodIn_r _ [467, 99, 100, 360, 361, 362, 5, 363, 115, 306, 307, 308, 309, 310, 97, 96, 311, 312, 313, 314, 133, 134, 135, 823, 824, 825, 826, 827, 828, 829, 830, 831, 832, 833, 834, 835, 836, 837, 838, 839, 840, 841, 842, 843, 844, 845, 846, 847, 848, 849, 850] (by decide +kernel) (by decide +kernel)
set_option maxRecDepth 20000 in
theorem gL_law_X9_judge : GoodIn wsL_law (wsV RL 78 RX9 yX9_judge wsX9_judge) := goodIn_app (goodIn_of _ (by decide +kernel)) ggL_law_X9_judge
set_option maxRecDepth 20000 in
theorem ggL_law_X8_counts : GoodIn wsL_law wsX8_counts := goodIn_r _ [471, 20, 427, 472, 473, 229, 474, 231, 475, 348, 349, 350, 351, 352, 353, 354, 476, 477, 478, 479, 480, 481, 482, 813, 814, 815, 816, 817, 818, 819, 820, 821, 822, 853, 854, 855, 856, 857] (by decide +kernel) (by decide +kernel)
set_option maxRecDepth 20000 in
theorem gL_law_X8_counts : GoodIn wsL_law (wsV RL 79 RX8 yX8_counts wsX8_counts) := goodIn_app (goodIn_of _ (by decide +kernel)) ggL_law_X8_counts
set_option maxRecDepth 20000 in
theorem ggL_law_X9_counts : GoodIn wsL_law wsX9_counts := goodIn_r _ [486, 100, 823, 824, 825, 826, 827, 828, 829, 830, 831, 832, 833, 834, 835, 836, 837, 838, 839, 840, 841, 842, 843, 844, 845, 846, 847, 848, 849, 850] (by decide +kernel) (by decide +kernel)
set_option maxRecDepth 20000 in
theorem gL_law_X9_counts : GoodIn wsL_law (wsV RL 82 RX9 yX9_counts wsX9_counts) := goodIn_app (goodIn_of _ (by decide +kernel)) ggL_law_X9_counts
set_option maxRecDepth 20000 in
theorem ggL_law_X8_wish : GoodIn wsL_law wsX8_wish := goodIn_r _ [490, 26, 491, 492, 493, 813, 814, 815, 816, 817, 818, 819, 820, 821, 822, 858, 859, 860, 861, 862] (by decide +kernel) (by decide +kernel)
set_option maxRecDepth 20000 in
theorem gL_law_X8_wish : GoodIn wsL_law (wsV RL 83 RX8 yX8_wish wsX8_wish) := goodIn_app (goodIn_of _ (by decide +kernel)) ggL_law_X8_wish
set_option maxRecDepth 20000 in
theorem ggL_law_X9_wish : GoodIn wsL_law wsX9_wish := goodIn_r _ [497, 498, 499, 112, 113, 114, 133, 134, 5, 135, 823, 824, 825, 826, 827, 828, 829, 830, 831, 832, 833, 834, 835, 836, 837, 838, 839, 840, 841, 842, 843, 844, 845, 846, 847, 848, 849, 850] (by decide +kernel) (by decide +kernel)
set_option maxRecDepth 20000 in
theorem gL_law_X9_wish : GoodIn wsL_law (wsV RL 87 RX9 yX9_wish wsX9_wish) := goodIn_app (goodIn_of _ (by decide +kernel)) ggL_law_X9_wish
set_option maxRecDepth 20000 in
theorem ggL_law_X8_want : GoodIn wsL_law wsX8_want := goodIn_r _ [503, 26, 504, 258, 259, 2, 260, 428, 429, 430, 505, 506, 507, 25, 508, 76, 509, 813, 814, 815, 816, 817, 818, 819, 820, 821, 822, 858, 859, 860, 861, 862] (by decide +kernel) (by decide +kernel)
set_option maxRecDepth 20000 in
theorem gL_law_X8_want : GoodIn wsL_law (wsV RL 88 RX8 yX8_want wsX8_want) := goodIn_app (goodIn_of _ (by decide +kernel)) ggL_law_X8_want
set_option maxRecDepth 20000 in
theorem ggL_law_X9_want : GoodIn wsL_law wsX9_want := goodIn_r _ [513, 499, 514, 101, 102, 103, 302, 303, 5, 304, 305, 133, 134, 135, 442, 443, 444, 823, 824, 825, 826, 827, 828, 829, 830, 831, 832, 833, 834, 835, 836, 837, 838, 839, 840, 841, 842, 843, 844, 845, 846, 847, 848, 849, 850] (by decide +kernel) (by decide +kernel)
set_option maxRecDepth 20000 in
theorem gL_law_X9_want : GoodIn wsL_law (wsV RL 91 RX9 yX9_want wsX9_want) := goodIn_app (goodIn_of _ (by decide +kernel)) ggL_law_X9_want
set_option maxRecDepth 20000 in
theorem ggL_law_X8_unwant : GoodIn wsL_law wsX8_unwant := goodIn_r _ [518, 26, 504, 519, 520, 521, 25, 522, 509, 76, 813, 814, 815, 816, 817, 818, 819, 820, 821, 822, 858, 859, 860, 861, 862] (by decide +kernel) (by decide +kernel)
set_option maxRecDepth 20000 in
theorem gL_law_X8_unwant : GoodIn wsL_law (wsV RL 92 RX8 yX8_unwant wsX8_unwant) := goodIn_app (goodIn_of _ (by decide +kernel)) ggL_law_X8_unwant
