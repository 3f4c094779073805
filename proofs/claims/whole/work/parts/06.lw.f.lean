set_option maxRecDepth 20000 in
theorem gL_law_X9_nights : GoodIn wsL_law (wsV RL 54 RX9 yX9_nights wsX9_nights) := goodIn_app (goodIn_of _ (by decide +kernel)) ggL_law_X9_nights
set_option maxRecDepth 20000 in
theorem ggL_law_X8_night : GoodIn wsL_law wsX8_night := goodIn_r _ [371, 265, 266, 267, 2, 268, 20, 211, 38, 40, 269, 270, 271, 53, 272, 240, 62, 63, 65, 273, 274, 275, 276, 37, 277, 278, 279, 280, 281, 282, 283, 284, 285, 286, 287, 288, 289, 290, 291, 292, 293, 294, 68, 66, 351, 372, 373, 229, 374, 375, 353, 354, 355, 356, 357, 358, 817, 818, 819, 820, 821, 822, 823, 824, 825, 826, 857, 858, 859, 860, 861, 876, 877, 878, 879, 880, 881, 873, 874, 875] (by decide +kernel) (by decide +kernel)
set_option maxRecDepth 20000 in
theorem gL_law_X8_night : GoodIn wsL_law (wsV RL 55 RX8 yX8_night wsX8_night) := goodIn_app (goodIn_of _ (by decide +kernel)) ggL_law_X8_night
set_option maxRecDepth 20000 in
theorem ggL_law_X9_night : GoodIn wsL_law wsX9_night := goodIn_r _ [379, 363, 99, 133, 134, 5, 135, 364, 365, 366, 367, 115, 310, 311, 312, 313, 314, 97, 96, 315, 316, 317, 318, 827, 828, 829, 830, 831, 832, 833, 834, 835, 836, 837, 838, 839, 840, 841, 842, 843, 844, 845, 846, 847, 848, 849, 850, 851, 852, 853, 854] (by decide +kernel) (by decide +kernel)
set_option maxRecDepth 20000 in
theorem gL_law_X9_night : GoodIn wsL_law (wsV RL 58 RX9 yX9_night wsX9_night) := goodIn_app (goodIn_of _ (by decide +kernel)) ggL_law_X9_night
set_option maxRecDepth 20000 in
theorem ggL_law_X8_mend : GoodIn wsL_law wsX8_mend := goodIn_r _ [383, 34, 20, 211, 40, 39, 384, 265, 266, 267, 2, 268, 38, 269, 270, 271, 53, 272, 240, 62, 63, 65, 273, 274, 275, 276, 37, 277, 278, 279, 280, 281, 282, 283, 284, 285, 286, 287, 288, 289, 290, 291, 292, 293, 294, 68, 66, 385, 386, 387, 33, 388, 389, 390, 391, 392, 393, 394, 395, 396, 397, 398, 399, 400, 401, 402, 403, 404, 405, 353, 354, 355, 356, 357, 358, 817, 818, 819, 820, 821, 822, 823, 824, 825, 826, 857, 858, 859, 860, 861, 871, 872, 876, 877, 878, 879, 880, 881, 873, 874, 875] (by decide +kernel) (by decide +kernel)
set_option maxRecDepth 20000 in
theorem gL_law_X8_mend : GoodIn wsL_law (wsV RL 59 RX8 yX8_mend wsX8_mend) := goodIn_app (goodIn_of _ (by decide +kernel)) ggL_law_X8_mend
set_option maxRecDepth 20000 in
theorem ggL_law_X9_mend : GoodIn wsL_law wsX9_mend := goodIn_r _ [409, 410, 411, 412, 5, 413, 414, 97, 99, 115, 364, 365, 366, 367, 310, 311, 312, 313, 314, 96, 315, 316, 317, 318, 133, 134, 135, 415, 416, 417, 827, 828, 829, 830, 831, 832, 833, 834, 835, 836, 837, 838, 839, 840, 841, 842, 843, 844, 845, 846, 847, 848, 849, 850, 851, 852, 853, 854] (by decide +kernel) (by decide +kernel)
set_option maxRecDepth 20000 in
theorem gL_law_X9_mend : GoodIn wsL_law (wsV RL 62 RX9 yX9_mend wsX9_mend) := goodIn_app (goodIn_of _ (by decide +kernel)) ggL_law_X9_mend
set_option maxRecDepth 20000 in
theorem ggL_law_X8_changes : GoodIn wsL_law wsX8_changes := goodIn_r _ [421, 34, 20, 211, 40, 39, 422, 265, 266, 267, 2, 268, 38, 269, 270, 271, 53, 272, 240, 62, 63, 65, 273, 274, 275, 276, 37, 277, 278, 279, 280, 281, 282, 283, 284, 285, 286, 287, 288, 289, 290, 291, 292, 293, 294, 68, 66, 385, 386, 387, 33, 388, 389, 390, 391, 392, 393, 394, 395, 396, 397, 398, 399, 400, 401, 402, 403, 404, 405, 353, 354, 355, 356, 357, 358, 817, 818, 819, 820, 821, 822, 823, 824, 825, 826, 857, 858, 859, 860, 861, 871, 872, 876, 877, 878, 879, 880, 881, 873, 874, 875] (by decide +kernel) (by decide +kernel)
set_option maxRecDepth 20000 in
theorem gL_law_X8_changes : GoodIn wsL_law (wsV RL 63 RX8 yX8_changes wsX8_changes) := goodIn_app (goodIn_of _ (by decide +kernel)) ggL_law_X8_changes
set_option maxRecDepth 20000 in
theorem ggL_law_X9_changes : GoodIn wsL_law wsX9_changes := goodIn_r _ [426, 414, 410, 411, 412, 5, 413, 97, 99, 115, 364, 365, 366, 367, 310, 311, 312, 313, 314, 96, 315, 316, 317, 318, 133, 134, 135, 415, 416, 417, 827, 828, 829, 830, 831, 832, 833, 834, 835, 836, 837, 838, 839, 840, 841, 842, 843, 844, 845, 846, 847, 848, 849, 850, 851, 852, 853, 854] (by decide +kernel) (by decide +kernel)
set_option maxRecDepth 20000 in
theorem gL_law_X9_changes : GoodIn wsL_law (wsV RL 66 RX9 yX9_changes wsX9_changes) := goodIn_app (goodIn_of _ (by decide +kernel)) ggL_law_X9_changes
set_option maxRecDepth 20000 in
theorem ggL_law_X8_put : GoodIn wsL_law wsX8_put := goodIn_r _ [430, 20, 431, 262, 263, 2, 264, 432, 433, 434, 435, 341, 229, 342, 436, 437, 438, 19, 439, 440, 441, 817, 818, 819, 820, 821, 822, 823, 824, 825, 826, 857, 858, 859, 860, 861] (by decide +kernel) (by decide +kernel)
set_option maxRecDepth 20000 in
theorem gL_law_X8_put : GoodIn wsL_law (wsV RL 67 RX8 yX8_put wsX8_put) := goodIn_app (goodIn_of _ (by decide +kernel)) ggL_law_X8_put
set_option maxRecDepth 20000 in
theorem ggL_law_X9_put : GoodIn wsL_law wsX9_put := goodIn_r _ [445, 100, 306, 307, 5, 308, 309, 133, 134, 135, 446, 447, 448, 827, 828, 829, 830, 831, 832, 833, 834, 835, 836, 837, 838, 839, 840, 841, 842, 843, 844, 845, 846, 847, 848, 849, 850, 851, 852, 853, 854] (by decide +kernel) (by decide +kernel)
set_option maxRecDepth 20000 in
theorem gL_law_X9_put : GoodIn wsL_law (wsV RL 70 RX9 yX9_put wsX9_put) := goodIn_app (goodIn_of _ (by decide +kernel)) ggL_law_X9_put
set_option maxRecDepth 20000 in
theorem ggL_law_X8_at : GoodIn wsL_law wsX8_at := goodIn_r _ [452, 20, 431, 262, 263, 2, 264, 435, 341, 229, 342, 817, 818, 819, 820, 821, 822, 823, 824, 825, 826, 857, 858, 859, 860, 861] (by decide +kernel) (by decide +kernel)
set_option maxRecDepth 20000 in
theorem gL_law_X8_at : GoodIn wsL_law (wsV RL 71 RX8 yX8_at wsX8_at) := goodIn_app (goodIn_of _ (by decide +kernel)) ggL_law_X8_at
set_option maxRecDepth 20000 in
theorem ggL_law_X9_at : GoodIn wsL_law wsX9_at := goodIn_r _ [456, 100, 306, 307, 5, 308, 309, 133, 134, 135, 827, 828, 829, 830, 831, 832, 833, 834, 835, 836, 837, 838, 839, 840, 841, 842, 843, 844, 845, 846, 847, 848, 849, 850, 851, 852, 853, 854] (by decide +kernel) (by decide +kernel)
set_option maxRecDepth 20000 in
theorem gL_law_X9_at : GoodIn wsL_law (wsV RL 74 RX9 yX9_at wsX9_at) := goodIn_app (goodIn_of _ (by decide +kernel)) ggL_law_X9_at
set_option maxRecDepth 20000 in
theorem ggL_law_X8_judge : GoodIn wsL_law wsX8_judge := goodIn_r _ [460, 461, 462, 463, 2, 464, 465, 20, 431, 466, 467, 265, 266, 267, 268, 211, 38, 40, 269, 270, 271, 53, 272, 240, 62, 63, 65, 273, 274, 275, 276, 37, 277, 278, 279, 280, 281, 282, 283, 284, 285, 286, 287, 288, 289, 290, 291, 292, 293, 294, 68, 66, 372, 373, 229, 374, 375, 353, 354, 355, 356, 357, 358, 873, 874, 875, 817, 818, 819, 820, 821, 822, 823, 824, 825, 826, 857, 858, 859, 860, 861, 876, 877, 878, 879, 880, 881] (by decide +kernel) (by decide +kernel)
set_option maxRecDepth 20000 in
theorem gL_law_X8_judge : GoodIn wsL_law (wsV RL 75 RX8 yX8_judge wsX8_judge) := goodIn_app (goodIn_of _ (by decide +kernel)) ggL_law_X8_judge
set_option maxRecDepth 20000 in
theorem ggL_law_X9_judge : GoodIn wsL_law wsX9_judge := goodIn_r _ [471, 99, 100, 364, 365, 366, 5, 367, 115, 310, 311, 312, 313, 314, 97, 96, 315, 316, 317, 318, 133, 134, 135, 827, 828, 829, 830, 831, 832, 833, 834, 835, 836, 837, 838, 839, 840, 841, 842, 843, 844, 845, 846, 847, 848, 849, 850, 851, 852, 853, 854] (by decide +kernel) (by decide +kernel)
set_option maxRecDepth 20000 in
theorem gL_law_X9_judge : GoodIn wsL_law (wsV RL 78 RX9 yX9_judge wsX9_judge) := goodIn_app (goodIn_of _ (by decide +kernel)) ggL_law_X9_judge
set_option maxRecDepth 20000 in
theorem ggL_law_X8_counts : GoodIn wsL_law wsX8_counts := goodIn_r _ [475, 20, 431, 476, 477, 229, 478, 231, 479, 352, 353, 354, 355, 356, 357, 358, 480, 481, 482, 483, 484, 485, 486, 817, 818, 819, 820, 821, 822, 823, 824, 825, 826, 857, 858, 859, 860, 861] (by decide +kernel) (by decide +kernel)
set_option maxRecDepth 20000 in
theorem gL_law_X8_counts : GoodIn wsL_law (wsV RL 79 RX8 yX8_counts wsX8_counts) := goodIn_app (goodIn_of _ (by decide +kernel)) ggL_law_X8_counts
set_option maxRecDepth 20000 in
theorem ggL_law_X9_counts : GoodIn wsL_law wsX9_counts := goodIn_r _ [490, 100, 827, 828, 829, 830, 831, 832, 833, 834, 835, 836, 837, 838, 839, 840, 841, 842, 843, 844, 845, 846, 847, 848, 849, 850, 851, 852, 853, 854] (by decide +kernel) (by decide +kernel)
set_option maxRecDepth 20000 in
theorem gL_law_X9_counts : GoodIn wsL_law (wsV RL 82 RX9 yX9_counts wsX9_counts) := goodIn_app (goodIn_of _ (by decide +kernel)) ggL_law_X9_counts
set_option maxRecDepth 20000 in
theorem ggL_law_X8_wish : GoodIn wsL_law wsX8_wish := goodIn_r _ [494, 26, 495, 496, 497, 817, 818, 819, 820, 821, 822, 823, 824, 825, 826, 862, 863, 864, 865, 866] (by decide +kernel) (by decide +kernel)
set_option maxRecDepth 20000 in
theorem gL_law_X8_wish : GoodIn wsL_law (wsV RL 83 RX8 yX8_wish wsX8_wish) := goodIn_app (goodIn_of _ (by decide +kernel)) ggL_law_X8_wish
set_option maxRecDepth 20000 in
theorem ggL_law_X9_wish : GoodIn wsL_law wsX9_wish := goodIn_r _ [501, 502, 503, 112, 113, 114, 133, 134, 5, 135, 827, 828, 829, 830, 831, 832, 833, 834, 835, 836, 837, 838, 839, 840, 841, 842, 843, 844, 845, 846, 847, 848, 849, 850, 851, 852, 853, 854] (by decide +kernel) (by decide +kernel)
set_option maxRecDepth 20000 in
theorem gL_law_X9_wish : GoodIn wsL_law (wsV RL 87 RX9 yX9_wish wsX9_wish) := goodIn_app (goodIn_of _ (by decide +kernel)) ggL_law_X9_wish
set_option maxRecDepth 20000 in
theorem ggL_law_X8_want : GoodIn wsL_law wsX8_want := goodIn_r _ [507, 26, 508, 262, 263, 2, 264, 432, 433, 434, 509, 510, 511, 25, 512, 76, 513, 817, 818, 819, 820, 821, 822, 823, 824, 825, 826, 862, 863, 864, 865, 866] (by decide +kernel) (by decide +kernel)
set_option maxRecDepth 20000 in
theorem gL_law_X8_want : GoodIn wsL_law (wsV RL 88 RX8 yX8_want wsX8_want) := goodIn_app (goodIn_of _ (by decide +kernel)) ggL_law_X8_want
set_option maxRecDepth 20000 in
theorem ggL_law_X9_want : GoodIn wsL_law wsX9_want := goodIn_r _ [517, 503, 518, 101, 102, 103, 306, 307, 5, 308, 309, 133, 134, 135, 446, 447, 448, 827, 828, 829, 830, 831, 832, 833, 834, 835, 836, 837, 838, 839, 840, 841, 842, 843, 844, 845, 846, 847, 848, 849, 850, 851, 852, 853, 854] (by decide +kernel) (by decide +kernel)
set_option maxRecDepth 20000 in
theorem gL_law_X9_want : GoodIn wsL_law (wsV RL 91 RX9 yX9_want wsX9_want) := goodIn_app (goodIn_of _ (by decide +kernel)) ggL_law_X9_want
set_option maxRecDepth 20000 in
theorem ggL_law_X8_unwant : GoodIn wsL_law wsX8_unwant := goodIn_r _ [522, 26, 508, 523, 524, 525, 25, 526, 513, 76, 817, 818, 819, 820, 821, 822, 823, 824, 825, 826, 862, 863, 864, 865, 866] (by decide +kernel) (by decide +kernel)
set_option maxRecDepth 20000 in
theorem gL_law_X8_unwant : GoodIn wsL_law (wsV RL 92 RX8 yX8_unwant wsX8_unwant) := goodIn_app (goodIn_of _ (by decide +kernel)) ggL_law_X8_unwant
