set_option maxRecDepth 20000 in
theorem gL_law_X8_wedding : GoodIn wsL_law (wsV RL 132 RX8 yX8_wedding wsX8_wedding) := goodIn_app (goodIn_of _ (by decide +kernel)) ggL_law_X8_wedding
set_option maxRecDepth 20000 in
theorem ggL_law_X9_wedding : GoodIn wsL_law wsX9_wedding := goodIn_r _ [709, 100, 306, 307, 5, 308, 309, 133, 134, 135, 446, 447, 448, 555, 556, 557, 558, 114, 112, 113, 559, 560, 561, 562, 518, 101, 102, 103, 827, 828, 829, 830, 831, 832, 833, 834, 835, 836, 837, 838, 839, 840, 841, 842, 843, 844, 845, 846, 847, 848, 849, 850, 851, 852, 853, 854] (by decide +kernel) (by decide +kernel)
set_option maxRecDepth 20000 in
theorem gL_law_X9_wedding : GoodIn wsL_law (wsV RL 135 RX9 yX9_wedding wsX9_wedding) := goodIn_app (goodIn_of _ (by decide +kernel)) ggL_law_X9_wedding
set_option maxRecDepth 20000 in
theorem ggL_law_X8_late : GoodIn wsL_law wsX8_late := goodIn_r _ [713, 20, 431, 262, 263, 2, 264, 480, 481, 229, 482, 231, 483, 714, 300, 301, 435, 341, 342, 715, 716, 717, 19, 718, 56, 57, 719, 720, 721, 722, 467, 265, 266, 267, 268, 211, 38, 40, 269, 270, 271, 53, 272, 240, 62, 63, 65, 273, 274, 275, 276, 37, 277, 278, 279, 280, 281, 282, 283, 284, 285, 286, 287, 288, 289, 290, 291, 292, 293, 294, 68, 66, 351, 677, 233, 234, 235, 372, 373, 374, 375, 353, 354, 355, 356, 357, 358, 436, 437, 438, 439, 440, 441, 817, 818, 819, 820, 821, 822, 823, 824, 825, 826, 857, 858, 859, 860, 861, 876, 877, 878, 879, 880, 881, 873, 874, 875] (by decide +kernel) (by decide +kernel)
set_option maxRecDepth 20000 in
theorem gL_law_X8_late : GoodIn wsL_law (wsV RL 136 RX8 yX8_late wsX8_late) := goodIn_app (goodIn_of _ (by decide +kernel)) ggL_law_X8_late
set_option maxRecDepth 20000 in
theorem ggL_law_X9_late : GoodIn wsL_law wsX9_late := goodIn_r _ [726, 257, 100, 106, 107, 99, 306, 307, 5, 308, 309, 133, 134, 135, 364, 365, 366, 367, 115, 310, 311, 312, 313, 314, 97, 96, 315, 316, 317, 318, 827, 828, 829, 830, 831, 832, 833, 834, 835, 836, 837, 838, 839, 840, 841, 842, 843, 844, 845, 846, 847, 848, 849, 850, 851, 852, 853, 854] (by decide +kernel) (by decide +kernel)
set_option maxRecDepth 20000 in
theorem gL_law_X9_late : GoodIn wsL_law (wsV RL 139 RX9 yX9_late wsX9_late) := goodIn_app (goodIn_of _ (by decide +kernel)) ggL_law_X9_late
set_option maxRecDepth 20000 in
theorem ggL_law_X8_fines : GoodIn wsL_law wsX8_fines := goodIn_r _ [730, 20, 731, 732, 432, 433, 2, 434, 817, 818, 819, 820, 821, 822, 823, 824, 825, 826, 857, 858, 859, 860, 861] (by decide +kernel) (by decide +kernel)
set_option maxRecDepth 20000 in
theorem gL_law_X8_fines : GoodIn wsL_law (wsV RL 140 RX8 yX8_fines wsX8_fines) := goodIn_app (goodIn_of _ (by decide +kernel)) ggL_law_X8_fines
set_option maxRecDepth 20000 in
theorem ggL_law_X9_fines : GoodIn wsL_law wsX9_fines := goodIn_r _ [736, 107, 106, 446, 447, 5, 448, 133, 134, 135, 827, 828, 829, 830, 831, 832, 833, 834, 835, 836, 837, 838, 839, 840, 841, 842, 843, 844, 845, 846, 847, 848, 849, 850, 851, 852, 853, 854] (by decide +kernel) (by decide +kernel)
set_option maxRecDepth 20000 in
theorem gL_law_X9_fines : GoodIn wsL_law (wsV RL 144 RX9 yX9_fines wsX9_fines) := goodIn_app (goodIn_of _ (by decide +kernel)) ggL_law_X9_fines
set_option maxRecDepth 20000 in
theorem ggL_law_X8_move : GoodIn wsL_law wsX8_move := goodIn_r _ [740, 466, 265, 266, 267, 2, 268, 20, 211, 38, 40, 269, 270, 271, 53, 272, 240, 62, 63, 65, 273, 274, 275, 276, 37, 277, 278, 279, 280, 281, 282, 283, 284, 285, 286, 287, 288, 289, 290, 291, 292, 293, 294, 68, 66, 741, 742, 743, 744, 352, 353, 354, 355, 356, 357, 358, 873, 874, 875, 817, 818, 819, 820, 821, 822, 823, 824, 825, 826, 857, 858, 859, 860, 861, 876, 877, 878, 879, 880, 881] (by decide +kernel) (by decide +kernel)
set_option maxRecDepth 20000 in
theorem gL_law_X8_move : GoodIn wsL_law (wsV RL 145 RX8 yX8_move wsX8_move) := goodIn_app (goodIn_of _ (by decide +kernel)) ggL_law_X8_move
set_option maxRecDepth 20000 in
theorem ggL_law_X9_move : GoodIn wsL_law wsX9_move := goodIn_r _ [748, 257, 99, 133, 134, 5, 135, 364, 365, 366, 367, 115, 310, 311, 312, 313, 314, 97, 96, 315, 316, 317, 318, 614, 615, 616, 617, 827, 828, 829, 830, 831, 832, 833, 834, 835, 836, 837, 838, 839, 840, 841, 842, 843, 844, 845, 846, 847, 848, 849, 850, 851, 852, 853, 854] (by decide +kernel) (by decide +kernel)
set_option maxRecDepth 20000 in
theorem gL_law_X9_move : GoodIn wsL_law (wsV RL 148 RX9 yX9_move wsX9_move) := goodIn_app (goodIn_of _ (by decide +kernel)) ggL_law_X9_move
set_option maxRecDepth 20000 in
theorem ggL_law_X8_then : GoodIn wsL_law wsX8_then := goodIn_r _ [752, 30, 26, 465, 466, 467, 567, 741, 742, 2, 743, 744, 265, 266, 267, 268, 20, 211, 38, 40, 269, 270, 271, 53, 272, 240, 62, 63, 65, 273, 274, 275, 276, 37, 277, 278, 279, 280, 281, 282, 283, 284, 285, 286, 287, 288, 289, 290, 291, 292, 293, 294, 68, 66, 572, 573, 574, 29, 575, 81, 82, 576, 577, 578, 579, 580, 581, 582, 583, 584, 585, 586, 300, 229, 301, 587, 548, 549, 25, 550, 76, 588, 589, 590, 591, 592, 593, 594, 595, 596, 597, 598, 599, 600, 817, 818, 819, 820, 821, 822, 823, 824, 825, 826, 873, 874, 875, 867, 868, 869, 870, 857, 858, 859, 860, 861, 876, 877, 878, 879, 880, 881, 862, 863, 864, 865, 866] (by decide +kernel) (by decide +kernel)
set_option maxRecDepth 20000 in
theorem gL_law_X8_then : GoodIn wsL_law (wsV RL 149 RX8 yX8_then wsX8_then) := goodIn_app (goodIn_of _ (by decide +kernel)) ggL_law_X8_then
set_option maxRecDepth 20000 in
theorem ggL_law_X9_then : GoodIn wsL_law wsX9_then := goodIn_r _ [756, 257, 133, 134, 5, 135, 605, 606, 607, 608, 104, 112, 609, 105, 364, 365, 366, 367, 99, 115, 310, 311, 312, 313, 314, 97, 96, 315, 316, 317, 318, 610, 611, 612, 613, 114, 113, 614, 615, 616, 617, 559, 560, 561, 562, 518, 101, 102, 103, 827, 828, 829, 830, 831, 832, 833, 834, 835, 836, 837, 838, 839, 840, 841, 842, 843, 844, 845, 846, 847, 848, 849, 850, 851, 852, 853, 854] (by decide +kernel) (by decide +kernel)
set_option maxRecDepth 20000 in
theorem gL_law_X9_then : GoodIn wsL_law (wsV RL 152 RX9 yX9_then wsX9_then) := goodIn_app (goodIn_of _ (by decide +kernel)) ggL_law_X9_then
set_option maxRecDepth 20000 in
theorem ggL_law_X8_together : GoodIn wsL_law wsX8_together := goodIn_r _ [760, 761, 211, 39, 40, 465, 466, 762, 763, 2, 764, 765, 766, 767, 768, 21, 22, 265, 266, 267, 268, 20, 38, 269, 270, 271, 53, 272, 240, 62, 63, 65, 273, 274, 275, 276, 37, 277, 278, 279, 280, 281, 282, 283, 284, 285, 286, 287, 288, 289, 290, 291, 292, 293, 294, 68, 66, 352, 353, 354, 355, 356, 357, 358, 857, 858, 859, 860, 861, 817, 818, 819, 820, 821, 822, 823, 824, 825, 826, 873, 874, 875, 876, 877, 878, 879, 880, 881] (by decide +kernel) (by decide +kernel)
set_option maxRecDepth 20000 in
theorem gL_law_X8_together : GoodIn wsL_law (wsV RL 153 RX8 yX8_together wsX8_together) := goodIn_app (goodIn_of _ (by decide +kernel)) ggL_law_X8_together
set_option maxRecDepth 20000 in
theorem ggL_law_X9_together : GoodIn wsL_law wsX9_together := goodIn_r _ [772, 108, 115, 133, 134, 5, 135, 310, 311, 312, 313, 314, 97, 96, 315, 316, 317, 318, 827, 828, 829, 830, 831, 832, 833, 834, 835, 836, 837, 838, 839, 840, 841, 842, 843, 844, 845, 846, 847, 848, 849, 850, 851, 852, 853, 854] (by decide +kernel) (by decide +kernel)
set_option maxRecDepth 20000 in
theorem gL_law_X9_together : GoodIn wsL_law (wsV RL 156 RX9 yX9_together wsX9_together) := goodIn_app (goodIn_of _ (by decide +kernel)) ggL_law_X9_together
set_option maxRecDepth 20000 in
theorem ggL_law_X8_years : GoodIn wsL_law wsX8_years := goodIn_r _ [776, 777, 778, 779, 2, 780, 20, 211, 39, 465, 466, 269, 270, 271, 53, 272, 240, 62, 63, 65, 273, 274, 275, 276, 37, 277, 278, 279, 280, 281, 282, 283, 284, 285, 286, 287, 288, 289, 290, 291, 292, 293, 294, 68, 66, 352, 353, 354, 355, 356, 357, 358, 817, 818, 819, 820, 821, 822, 823, 824, 825, 826, 857, 858, 859, 860, 861, 873, 874, 875, 876, 877, 878, 879, 880, 881] (by decide +kernel) (by decide +kernel)
set_option maxRecDepth 20000 in
theorem gL_law_X8_years : GoodIn wsL_law (wsV RL 157 RX8 yX8_years wsX8_years) := goodIn_app (goodIn_of _ (by decide +kernel)) ggL_law_X8_years
set_option maxRecDepth 20000 in
theorem ggL_law_X9_years : GoodIn wsL_law wsX9_years := goodIn_r _ [784, 310, 311, 312, 5, 313, 314, 97, 96, 315, 316, 317, 318, 133, 134, 135, 827, 828, 829, 830, 831, 832, 833, 834, 835, 836, 837, 838, 839, 840, 841, 842, 843, 844, 845, 846, 847, 848, 849, 850, 851, 852, 853, 854] (by decide +kernel) (by decide +kernel)
set_option maxRecDepth 20000 in
theorem gL_law_X9_years : GoodIn wsL_law (wsV RL 160 RX9 yX9_years wsX9_years) := goodIn_app (goodIn_of _ (by decide +kernel)) ggL_law_X9_years
set_option maxRecDepth 20000 in
theorem ggL_law_X8_keep : GoodIn wsL_law wsX8_keep := goodIn_r _ [788, 20, 761, 211, 212, 762, 763, 2, 764, 765, 766, 767, 768, 21, 22, 789, 790, 791, 19, 792, 54, 440, 56, 57, 793, 794, 795, 53, 796, 240, 241, 242, 243, 244, 62, 63, 65, 66, 68, 817, 818, 819, 820, 821, 822, 823, 824, 825, 826, 857, 858, 859, 860, 861, 876, 877, 878, 879, 880, 881] (by decide +kernel) (by decide +kernel)
set_option maxRecDepth 20000 in
theorem gL_law_X8_keep : GoodIn wsL_law (wsV RL 161 RX8 yX8_keep wsX8_keep) := goodIn_app (goodIn_of _ (by decide +kernel)) ggL_law_X8_keep
set_option maxRecDepth 20000 in
theorem ggL_law_X9_keep : GoodIn wsL_law wsX9_keep := goodIn_r _ [800, 108, 97, 96, 109, 100, 110, 106, 111, 107, 133, 134, 5, 135, 827, 828, 829, 830, 831, 832, 833, 834, 835, 836, 837, 838, 839, 840, 841, 842, 843, 844, 845, 846, 847, 848, 849, 850, 851, 852, 853, 854] (by decide +kernel) (by decide +kernel)
set_option maxRecDepth 20000 in
theorem gL_law_X9_keep : GoodIn wsL_law (wsV RL 164 RX9 yX9_keep wsX9_keep) := goodIn_app (goodIn_of _ (by decide +kernel)) ggL_law_X9_keep
set_option maxRecDepth 20000 in
theorem ggL_law_X8_again : GoodIn wsL_law wsX8_again := goodIn_r _ [804, 761, 20, 211, 212, 762, 763, 2, 764, 765, 766, 767, 768, 21, 22, 789, 790, 791, 19, 792, 54, 440, 56, 57, 793, 794, 795, 53, 796, 240, 241, 242, 243, 244, 62, 63, 65, 66, 68, 857, 858, 859, 860, 861, 817, 818, 819, 820, 821, 822, 823, 824, 825, 826, 876, 877, 878, 879, 880, 881] (by decide +kernel) (by decide +kernel)
set_option maxRecDepth 20000 in
theorem gL_law_X8_again : GoodIn wsL_law (wsV RL 165 RX8 yX8_again wsX8_again) := goodIn_app (goodIn_of _ (by decide +kernel)) ggL_law_X8_again
set_option maxRecDepth 20000 in
theorem ggL_law_X9_again : GoodIn wsL_law wsX9_again := goodIn_r _ [808, 108, 97, 96, 100, 109, 106, 110, 107, 111, 133, 134, 5, 135, 827, 828, 829, 830, 831, 832, 833, 834, 835, 836, 837, 838, 839, 840, 841, 842, 843, 844, 845, 846, 847, 848, 849, 850, 851, 852, 853, 854] (by decide +kernel) (by decide +kernel)
set_option maxRecDepth 20000 in
theorem gL_law_X9_again : GoodIn wsL_law (wsV RL 168 RX9 yX9_again wsX9_again) := goodIn_app (goodIn_of _ (by decide +kernel)) ggL_law_X9_again
set_option maxRecDepth 20000 in
theorem ggL_law_X8_count : GoodIn wsL_law wsX8_count := goodIn_r _ [812, 16, 120, 20, 211, 212, 26, 508, 461, 462, 463, 2, 464, 465, 431, 466, 467, 265, 266, 267, 268, 38, 40, 269, 270, 271, 53, 272, 240, 62, 63, 65, 273, 274, 275, 276, 37, 277, 278, 279, 280, 281, 282, 283, 284, 285, 286, 287, 288, 289, 290, 291, 292, 293, 294, 68, 66, 352, 353, 354, 355, 356, 357, 358, 817, 818, 819, 820, 821, 822, 823, 824, 825, 826, 855, 856, 857, 858, 859, 860, 861, 876, 877, 878, 879, 880, 881, 862, 863, 864, 865, 866, 873, 874, 875] (by decide +kernel) (by decide +kernel)
set_option maxRecDepth 20000 in
theorem gL_law_X8_count : GoodIn wsL_law (wsV RL 169 RX8 yX8_count wsX8_count) := goodIn_app (goodIn_of _ (by decide +kernel)) ggL_law_X8_count
set_option maxRecDepth 20000 in
theorem ggL_law_X9_count : GoodIn wsL_law wsX9_count := goodIn_r _ [816, 99, 100, 131, 97, 518, 364, 365, 366, 5, 367, 115, 310, 311, 312, 313, 314, 96, 315, 316, 317, 318, 133, 134, 135, 827, 828, 829, 830, 831, 832, 833, 834, 835, 836, 837, 838, 839, 840, 841, 842, 843, 844, 845, 846, 847, 848, 849, 850, 851, 852, 853, 854] (by decide +kernel) (by decide +kernel)
set_option maxRecDepth 20000 in
theorem gL_law_X9_count : GoodIn wsL_law (wsV RL 172 RX9 yX9_count wsX9_count) := goodIn_app (goodIn_of _ (by decide +kernel)) ggL_law_X9_count
