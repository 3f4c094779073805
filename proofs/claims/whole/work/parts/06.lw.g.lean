set_option maxRecDepth 20000 in
theorem ggL_law_X9_unwant : GoodIn wsL_law wsX9_unwant := goodIn_r _ [530, 518, 827, 828, 829, 830, 831, 832, 833, 834, 835, 836, 837, 838, 839, 840, 841, 842, 843, 844, 845, 846, 847, 848, 849, 850, 851, 852, 853, 854] (by decide +kernel) (by decide +kernel)
set_option maxRecDepth 20000 in
theorem gL_law_X9_unwant : GoodIn wsL_law (wsV RL 95 RX9 yX9_unwant wsX9_unwant) := goodIn_app (goodIn_of _ (by decide +kernel)) ggL_law_X9_unwant
set_option maxRecDepth 20000 in
theorem ggL_law_X8_cost : GoodIn wsL_law wsX8_cost := goodIn_r _ [534, 26, 20, 431, 535, 536, 537, 25, 538, 75, 74, 73, 513, 539, 481, 229, 482, 231, 483, 540, 353, 354, 355, 356, 357, 358, 541, 542, 543, 544, 479, 545, 546, 341, 342, 547, 548, 549, 550, 76, 817, 818, 819, 820, 821, 822, 823, 824, 825, 826, 857, 858, 859, 860, 861, 862, 863, 864, 865, 866] (by decide +kernel) (by decide +kernel)
set_option maxRecDepth 20000 in
theorem gL_law_X8_cost : GoodIn wsL_law (wsV RL 96 RX8 yX8_cost wsX8_cost) := goodIn_app (goodIn_of _ (by decide +kernel)) ggL_law_X8_cost
set_option maxRecDepth 20000 in
theorem ggL_law_X9_cost : GoodIn wsL_law wsX9_cost := goodIn_r _ [554, 555, 556, 557, 5, 558, 100, 114, 112, 113, 559, 560, 561, 562, 518, 101, 102, 103, 827, 828, 829, 830, 831, 832, 833, 834, 835, 836, 837, 838, 839, 840, 841, 842, 843, 844, 845, 846, 847, 848, 849, 850, 851, 852, 853, 854] (by decide +kernel) (by decide +kernel)
set_option maxRecDepth 20000 in
theorem gL_law_X9_cost : GoodIn wsL_law (wsV RL 99 RX9 yX9_cost wsX9_cost) := goodIn_app (goodIn_of _ (by decide +kernel)) ggL_law_X9_cost
set_option maxRecDepth 20000 in
theorem ggL_law_X8_best : GoodIn wsL_law wsX8_best := goodIn_r _ [566, 30, 567, 568, 569, 570, 2, 571, 26, 465, 466, 265, 266, 267, 268, 20, 211, 38, 40, 269, 270, 271, 53, 272, 240, 62, 63, 65, 273, 274, 275, 276, 37, 277, 278, 279, 280, 281, 282, 283, 284, 285, 286, 287, 288, 289, 290, 291, 292, 293, 294, 68, 66, 572, 573, 574, 29, 575, 81, 82, 576, 577, 578, 579, 580, 581, 582, 583, 584, 585, 586, 300, 229, 301, 587, 548, 549, 25, 550, 76, 588, 589, 590, 591, 592, 593, 594, 595, 596, 597, 598, 599, 600, 817, 818, 819, 820, 821, 822, 823, 824, 825, 826, 867, 868, 869, 870, 873, 874, 875, 857, 858, 859, 860, 861, 876, 877, 878, 879, 880, 881, 862, 863, 864, 865, 866] (by decide +kernel) (by decide +kernel)
set_option maxRecDepth 20000 in
theorem gL_law_X8_best : GoodIn wsL_law (wsV RL 100 RX8 yX8_best wsX8_best) := goodIn_app (goodIn_of _ (by decide +kernel)) ggL_law_X8_best
set_option maxRecDepth 20000 in
theorem ggL_law_X9_best : GoodIn wsL_law wsX9_best := goodIn_r _ [604, 605, 606, 607, 5, 608, 104, 112, 609, 105, 364, 365, 366, 367, 99, 115, 310, 311, 312, 313, 314, 97, 96, 315, 316, 317, 318, 133, 134, 135, 610, 611, 612, 613, 114, 113, 614, 615, 616, 617, 559, 560, 561, 562, 518, 101, 102, 103, 827, 828, 829, 830, 831, 832, 833, 834, 835, 836, 837, 838, 839, 840, 841, 842, 843, 844, 845, 846, 847, 848, 849, 850, 851, 852, 853, 854] (by decide +kernel) (by decide +kernel)
set_option maxRecDepth 20000 in
theorem gL_law_X9_best : GoodIn wsL_law (wsV RL 103 RX9 yX9_best wsX9_best) := goodIn_app (goodIn_of _ (by decide +kernel)) ggL_law_X9_best
set_option maxRecDepth 20000 in
theorem ggL_law_X8_bestAt : GoodIn wsL_law wsX8_bestAt := goodIn_r _ [621, 30, 622, 262, 263, 2, 264, 568, 569, 570, 571, 26, 465, 466, 265, 266, 267, 268, 20, 211, 38, 40, 269, 270, 271, 53, 272, 240, 62, 63, 65, 273, 274, 275, 276, 37, 277, 278, 279, 280, 281, 282, 283, 284, 285, 286, 287, 288, 289, 290, 291, 292, 293, 294, 68, 66, 572, 573, 574, 29, 575, 81, 82, 576, 577, 578, 579, 580, 581, 582, 583, 584, 585, 586, 300, 229, 301, 587, 548, 549, 25, 550, 76, 588, 589, 590, 591, 592, 593, 594, 595, 596, 597, 598, 599, 600, 435, 341, 342, 817, 818, 819, 820, 821, 822, 823, 824, 825, 826, 867, 868, 869, 870, 873, 874, 875, 857, 858, 859, 860, 861, 876, 877, 878, 879, 880, 881, 862, 863, 864, 865, 866] (by decide +kernel) (by decide +kernel)
set_option maxRecDepth 20000 in
theorem gL_law_X8_bestAt : GoodIn wsL_law (wsV RL 104 RX8 yX8_bestAt wsX8_bestAt) := goodIn_app (goodIn_of _ (by decide +kernel)) ggL_law_X8_bestAt
set_option maxRecDepth 20000 in
theorem ggL_law_X9_bestAt : GoodIn wsL_law wsX9_bestAt := goodIn_r _ [626, 105, 306, 307, 5, 308, 309, 133, 134, 135, 605, 606, 607, 608, 104, 112, 609, 364, 365, 366, 367, 99, 115, 310, 311, 312, 313, 314, 97, 96, 315, 316, 317, 318, 610, 611, 612, 613, 114, 113, 614, 615, 616, 617, 559, 560, 561, 562, 518, 101, 102, 103, 827, 828, 829, 830, 831, 832, 833, 834, 835, 836, 837, 838, 839, 840, 841, 842, 843, 844, 845, 846, 847, 848, 849, 850, 851, 852, 853, 854] (by decide +kernel) (by decide +kernel)
set_option maxRecDepth 20000 in
theorem gL_law_X9_bestAt : GoodIn wsL_law (wsV RL 107 RX9 yX9_bestAt wsX9_bestAt) := goodIn_app (goodIn_of _ (by decide +kernel)) ggL_law_X9_bestAt
set_option maxRecDepth 20000 in
theorem ggL_law_X8_take : GoodIn wsL_law wsX8_take := goodIn_r _ [630, 20, 431, 30, 622, 568, 569, 570, 2, 571, 26, 465, 466, 265, 266, 267, 268, 211, 38, 40, 269, 270, 271, 53, 272, 240, 62, 63, 65, 273, 274, 275, 276, 37, 277, 278, 279, 280, 281, 282, 283, 284, 285, 286, 287, 288, 289, 290, 291, 292, 293, 294, 68, 66, 572, 573, 574, 29, 575, 81, 82, 576, 577, 578, 579, 580, 581, 582, 583, 584, 585, 586, 300, 229, 301, 587, 548, 549, 25, 550, 76, 588, 589, 590, 591, 592, 593, 594, 595, 596, 597, 598, 599, 600, 352, 353, 354, 355, 356, 357, 358, 817, 818, 819, 820, 821, 822, 823, 824, 825, 826, 857, 858, 859, 860, 861, 867, 868, 869, 870, 873, 874, 875, 876, 877, 878, 879, 880, 881, 862, 863, 864, 865, 866] (by decide +kernel) (by decide +kernel)
set_option maxRecDepth 20000 in
theorem gL_law_X8_take : GoodIn wsL_law (wsV RL 108 RX8 yX8_take wsX8_take) := goodIn_app (goodIn_of _ (by decide +kernel)) ggL_law_X8_take
set_option maxRecDepth 20000 in
theorem ggL_law_X9_take : GoodIn wsL_law wsX9_take := goodIn_r _ [634, 100, 105, 605, 606, 607, 5, 608, 104, 112, 609, 364, 365, 366, 367, 99, 115, 310, 311, 312, 313, 314, 97, 96, 315, 316, 317, 318, 133, 134, 135, 610, 611, 612, 613, 114, 113, 614, 615, 616, 617, 559, 560, 561, 562, 518, 101, 102, 103, 827, 828, 829, 830, 831, 832, 833, 834, 835, 836, 837, 838, 839, 840, 841, 842, 843, 844, 845, 846, 847, 848, 849, 850, 851, 852, 853, 854] (by decide +kernel) (by decide +kernel)
set_option maxRecDepth 20000 in
theorem gL_law_X9_take : GoodIn wsL_law (wsV RL 111 RX9 yX9_take wsX9_take) := goodIn_app (goodIn_of _ (by decide +kernel)) ggL_law_X9_take
set_option maxRecDepth 20000 in
theorem ggL_law_X8_near : GoodIn wsL_law wsX8_near := goodIn_r _ [638, 639, 640, 641, 2, 642, 643, 594, 578, 595, 20, 431, 644, 577, 579, 435, 341, 229, 342, 817, 818, 819, 820, 821, 822, 823, 824, 825, 826, 857, 858, 859, 860, 861] (by decide +kernel) (by decide +kernel)
set_option maxRecDepth 20000 in
theorem gL_law_X8_near : GoodIn wsL_law (wsV RL 112 RX8 yX8_near wsX8_near) := goodIn_app (goodIn_of _ (by decide +kernel)) ggL_law_X8_near
set_option maxRecDepth 20000 in
theorem ggL_law_X9_near : GoodIn wsL_law wsX9_near := goodIn_r _ [648, 130, 133, 134, 5, 135, 649, 650, 651, 652, 100, 827, 828, 829, 830, 831, 832, 833, 834, 835, 836, 837, 838, 839, 840, 841, 842, 843, 844, 845, 846, 847, 848, 849, 850, 851, 852, 853, 854] (by decide +kernel) (by decide +kernel)
set_option maxRecDepth 20000 in
theorem gL_law_X9_near : GoodIn wsL_law (wsV RL 115 RX9 yX9_near wsX9_near) := goodIn_app (goodIn_of _ (by decide +kernel)) ggL_law_X9_near
set_option maxRecDepth 20000 in
theorem ggL_law_X8_brief : GoodIn wsL_law wsX8_brief := goodIn_r _ [656, 639, 640, 641, 2, 642, 643, 594, 578, 595, 20, 431, 644, 577, 579, 435, 341, 229, 342, 817, 818, 819, 820, 821, 822, 823, 824, 825, 826, 857, 858, 859, 860, 861] (by decide +kernel) (by decide +kernel)
set_option maxRecDepth 20000 in
theorem gL_law_X8_brief : GoodIn wsL_law (wsV RL 116 RX8 yX8_brief wsX8_brief) := goodIn_app (goodIn_of _ (by decide +kernel)) ggL_law_X8_brief
set_option maxRecDepth 20000 in
theorem ggL_law_X9_brief : GoodIn wsL_law wsX9_brief := goodIn_r _ [660, 661, 133, 134, 5, 135, 649, 650, 651, 652, 100, 827, 828, 829, 830, 831, 832, 833, 834, 835, 836, 837, 838, 839, 840, 841, 842, 843, 844, 845, 846, 847, 848, 849, 850, 851, 852, 853, 854] (by decide +kernel) (by decide +kernel)
set_option maxRecDepth 20000 in
theorem gL_law_X9_brief : GoodIn wsL_law (wsV RL 119 RX9 yX9_brief wsX9_brief) := goodIn_app (goodIn_of _ (by decide +kernel)) ggL_law_X9_brief
set_option maxRecDepth 20000 in
theorem ggL_law_X8_swap : GoodIn wsL_law wsX8_swap := goodIn_r _ [665, 20, 431, 26, 262, 263, 2, 264, 435, 341, 229, 342, 535, 536, 537, 25, 538, 75, 74, 73, 513, 539, 481, 482, 231, 483, 540, 353, 354, 355, 356, 357, 358, 541, 542, 543, 544, 479, 545, 546, 547, 548, 549, 550, 76, 666, 667, 668, 817, 818, 819, 820, 821, 822, 823, 824, 825, 826, 857, 858, 859, 860, 861, 862, 863, 864, 865, 866] (by decide +kernel) (by decide +kernel)
set_option maxRecDepth 20000 in
theorem gL_law_X8_swap : GoodIn wsL_law (wsV RL 120 RX8 yX8_swap wsX8_swap) := goodIn_app (goodIn_of _ (by decide +kernel)) ggL_law_X8_swap
set_option maxRecDepth 20000 in
theorem ggL_law_X9_swap : GoodIn wsL_law wsX9_swap := goodIn_r _ [672, 100, 306, 307, 5, 308, 309, 133, 134, 135, 555, 556, 557, 558, 114, 112, 113, 559, 560, 561, 562, 518, 101, 102, 103, 827, 828, 829, 830, 831, 832, 833, 834, 835, 836, 837, 838, 839, 840, 841, 842, 843, 844, 845, 846, 847, 848, 849, 850, 851, 852, 853, 854] (by decide +kernel) (by decide +kernel)
set_option maxRecDepth 20000 in
theorem gL_law_X9_swap : GoodIn wsL_law (wsV RL 123 RX9 yX9_swap wsX9_swap) := goodIn_app (goodIn_of _ (by decide +kernel)) ggL_law_X9_swap
set_option maxRecDepth 20000 in
theorem ggL_law_X8_owed : GoodIn wsL_law wsX8_owed := goodIn_r _ [676, 262, 263, 2, 264, 677, 233, 229, 234, 235, 678, 679, 680, 681, 466, 20, 431, 467, 465, 265, 266, 267, 268, 211, 38, 40, 269, 270, 271, 53, 272, 240, 62, 63, 65, 273, 274, 275, 276, 37, 277, 278, 279, 280, 281, 282, 283, 284, 285, 286, 287, 288, 289, 290, 291, 292, 293, 294, 68, 66, 352, 353, 354, 355, 356, 357, 358, 873, 874, 875, 817, 818, 819, 820, 821, 822, 823, 824, 825, 826, 857, 858, 859, 860, 861, 876, 877, 878, 879, 880, 881] (by decide +kernel) (by decide +kernel)
set_option maxRecDepth 20000 in
theorem gL_law_X8_owed : GoodIn wsL_law (wsV RL 124 RX8 yX8_owed wsX8_owed) := goodIn_app (goodIn_of _ (by decide +kernel)) ggL_law_X8_owed
set_option maxRecDepth 20000 in
theorem ggL_law_X9_owed : GoodIn wsL_law wsX9_owed := goodIn_r _ [685, 306, 307, 5, 308, 309, 133, 134, 135, 364, 365, 366, 367, 99, 115, 310, 311, 312, 313, 314, 97, 96, 315, 316, 317, 318, 686, 687, 688, 689, 100, 827, 828, 829, 830, 831, 832, 833, 834, 835, 836, 837, 838, 839, 840, 841, 842, 843, 844, 845, 846, 847, 848, 849, 850, 851, 852, 853, 854] (by decide +kernel) (by decide +kernel)
set_option maxRecDepth 20000 in
theorem gL_law_X9_owed : GoodIn wsL_law (wsV RL 127 RX9 yX9_owed wsX9_owed) := goodIn_app (goodIn_of _ (by decide +kernel)) ggL_law_X9_owed
set_option maxRecDepth 20000 in
theorem ggL_law_X8_even : GoodIn wsL_law wsX8_even := goodIn_r _ [693, 677, 233, 229, 234, 235, 678, 679, 680, 2, 681, 466, 20, 431, 467, 465, 265, 266, 267, 268, 211, 38, 40, 269, 270, 271, 53, 272, 240, 62, 63, 65, 273, 274, 275, 276, 37, 277, 278, 279, 280, 281, 282, 283, 284, 285, 286, 287, 288, 289, 290, 291, 292, 293, 294, 68, 66, 352, 353, 354, 355, 356, 357, 358, 873, 874, 875, 817, 818, 819, 820, 821, 822, 823, 824, 825, 826, 857, 858, 859, 860, 861, 876, 877, 878, 879, 880, 881] (by decide +kernel) (by decide +kernel)
set_option maxRecDepth 20000 in
theorem gL_law_X8_even : GoodIn wsL_law (wsV RL 128 RX8 yX8_even wsX8_even) := goodIn_app (goodIn_of _ (by decide +kernel)) ggL_law_X8_even
set_option maxRecDepth 20000 in
theorem ggL_law_X9_even : GoodIn wsL_law wsX9_even := goodIn_r _ [697, 364, 365, 366, 5, 367, 99, 115, 310, 311, 312, 313, 314, 97, 96, 315, 316, 317, 318, 133, 134, 135, 686, 687, 688, 689, 100, 827, 828, 829, 830, 831, 832, 833, 834, 835, 836, 837, 838, 839, 840, 841, 842, 843, 844, 845, 846, 847, 848, 849, 850, 851, 852, 853, 854] (by decide +kernel) (by decide +kernel)
set_option maxRecDepth 20000 in
theorem gL_law_X9_even : GoodIn wsL_law (wsV RL 131 RX9 yX9_even wsX9_even) := goodIn_app (goodIn_of _ (by decide +kernel)) ggL_law_X9_even
set_option maxRecDepth 20000 in
theorem ggL_law_X8_wedding : GoodIn wsL_law wsX8_wedding := goodIn_r _ [701, 20, 431, 262, 263, 2, 264, 432, 433, 434, 435, 341, 229, 342, 702, 703, 704, 705, 643, 594, 578, 595, 644, 577, 579, 26, 666, 667, 668, 535, 536, 537, 25, 538, 75, 74, 73, 513, 539, 481, 482, 231, 483, 540, 353, 354, 355, 356, 357, 358, 541, 542, 543, 544, 479, 545, 546, 547, 548, 549, 550, 76, 817, 818, 819, 820, 821, 822, 823, 824, 825, 826, 857, 858, 859, 860, 861, 862, 863, 864, 865, 866] (by decide +kernel) (by decide +kernel)
