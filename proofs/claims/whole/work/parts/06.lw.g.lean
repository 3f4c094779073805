set_option maxRecDepth 20000 in
theorem ggL_law_X9_unwant : GoodIn wsL_law wsX9_unwant := goodIn_r _ [526, 514, 823, 824, 825, 826, 827, 828, 829, 830, 831, 832, 833, 834, 835, 836, 837, 838, 839, 840, 841, 842, 843, 844, 845, 846, 847, 848, 849, 850] (by decide +kernel) (by decide +kernel)
set_option maxRecDepth 20000 in
theorem gL_law_X9_unwant : GoodIn wsL_law (wsV RL 95 RX9 yX9_unwant wsX9_unwant) := goodIn_app (goodIn_of _ (by decide +kernel)) ggL_law_X9_unwant
set_option maxRecDepth 20000 in
theorem ggL_law_X8_cost : GoodIn wsL_law wsX8_cost := goodIn_r _ [530, 26, 20, 427, 531, 532, 533, 25, 534, 75, 74, 73, 509, 535, 477, 229, 478, 231, 479, 536, 349, 350, 351, 352, 353, 354, 537, 538, 539, 540, 475, 541, 542, 337, 338, 543, 544, 545, 546, 76, 813, 814, 815, 816, 817, 818, 819, 820, 821, 822, 853, 854, 855, 856, 857, 858, 859, 860, 861, 862] (by decide +kernel) (by decide +kernel)
set_option maxRecDepth 20000 in
theorem gL_law_X8_cost : GoodIn wsL_law (wsV RL 96 RX8 yX8_cost wsX8_cost) := goodIn_app (goodIn_of _ (by decide +kernel)) ggL_law_X8_cost
set_option maxRecDepth 20000 in
theorem ggL_law_X9_cost : GoodIn wsL_law wsX9_cost := goodIn_r _ [550, 551, 552, 553, 5, 554, 100, 114, 112, 113, 555, 556, 557, 558, 514, 101, 102, 103, 823, 824, 825, 826, 827, 828, 829, 830, 831, 832, 833, 834, 835, 836, 837, 838, 839, 840, 841, 842, 843, 844, 845, 846, 847, 848, 849, 850] (by decide +kernel) (by decide +kernel)
set_option maxRecDepth 20000 in
theorem gL_law_X9_cost : GoodIn wsL_law (wsV RL 99 RX9 yX9_cost wsX9_cost) := goodIn_app (goodIn_of _ (by decide +kernel)) ggL_law_X9_cost
set_option maxRecDepth 20000 in
theorem ggL_law_X8_best : GoodIn wsL_law wsX8_best := goodIn_r _ [562, 30, 563, 564, 565, 566, 2, 567, 26, 461, 462, 261, 262, 263, 264, 20, 211, 38, 40, 265, 266, 267, 53, 268, 240, 68, 62, 64, 269, 270, 271, 272, 37, 273, 274, 275, 276, 277, 278, 279, 280, 281, 282, 283, 284, 285, 286, 287, 288, 289, 290, 67, 65, 568, 569, 570, 29, 571, 81, 82, 572, 573, 574, 575, 576, 577, 578, 579, 580, 581, 582, 296, 229, 297, 583, 544, 545, 25, 546, 76, 584, 585, 586, 587, 588, 589, 590, 591, 592, 593, 594, 595, 596, 813, 814, 815, 816, 817, 818, 819, 820, 821, 822, 863, 864, 865, 866, 869, 870, 871, 853, 854, 855, 856, 857, 872, 873, 874, 875, 876, 877, 858, 859, 860, 861, 862] (by decide +kernel) (by decide +kernel)
set_option maxRecDepth 20000 in
theorem gL_law_X8_best : GoodIn wsL_law (wsV RL 100 RX8 yX8_best wsX8_best) := goodIn_app (goodIn_of _ (by decide +kernel)) ggL_law_X8_best
set_option maxRecDepth 20000 in
theorem ggL_law_X9_best : GoodIn wsL_law wsX9_best := goodIn_r _ [600, 601, 602, 603, 5, 604, 104, 112, 605, 105, 360, 361, 362, 363, 99, 115, 306, 307, 308, 309, 310, 97, 96, 311, 312, 313, 314, 133, 134, 135, 606, 607, 608, 609, 114, 113, 610, 611, 612, 613, 555, 556, 557, 558, 514, 101, 102, 103, 823, 824, 825, 826, 827, 828, 829, 830, 831, 832, 833, 834, 835, 836, 837, 838, 839, 840, 841, 842, 843, 844, 845, 846, 847, 848, 849, 850] (by decide +kernel) (by decide +kernel)
set_option maxRecDepth 20000 in
theorem gL_law_X9_best : GoodIn wsL_law (wsV RL 103 RX9 yX9_best wsX9_best) := goodIn_app (goodIn_of _ (by decide +kernel)) ggL_law_X9_best
set_option maxRecDepth 20000 in
theorem ggL_law_X8_bestAt : GoodIn wsL_law wsX8_bestAt := goodIn_r _ [617, 30, 618, 258, 259, 2, 260, 564, 565, 566, 567, 26, 461, 462, 261, 262, 263, 264, 20, 211, 38, 40, 265, 266, 267, 53, 268, 240, 68, 62, 64, 269, 270, 271, 272, 37, 273, 274, 275, 276, 277, 278, 279, 280, 281, 282, 283, 284, 285, 286, 287, 288, 289, 290, 67, 65, 568, 569, 570, 29, 571, 81, 82, 572, 573, 574, 575, 576, 577, 578, 579, 580, 581, 582, 296, 229, 297, 583, 544, 545, 25, 546, 76, 584, 585, 586, 587, 588, 589, 590, 591, 592, 593, 594, 595, 596, 431, 337, 338, 813, 814, 815, 816, 817, 818, 819, 820, 821, 822, 863, 864, 865, 866, 869, 870, 871, 853, 854, 855, 856, 857, 872, 873, 874, 875, 876, 877, 858, 859, 860, 861, 862] (by decide +kernel) (by decide +kernel)
set_option maxRecDepth 20000 in
theorem gL_law_X8_bestAt : GoodIn wsL_law (wsV RL 104 RX8 yX8_bestAt wsX8_bestAt) := goodIn_app (goodIn_of _ (by decide +kernel)) ggL_law_X8_bestAt
set_option maxRecDepth 20000 in
theorem ggL_law_X9_bestAt : GoodIn wsL_law wsX9_bestAt := goodIn_r _ [622, 105, 302, 303, 5, 304, 305, 133, 134, 135, 601, 602, 603, 604, 104, 112, 605, 360, 361, 362, 363, 99, 115, 306, 307, 308, 309, 310, 97, 96, 311, 312, 313, 314, 606, 607, 608, 609, 114, 113, 610, 611, 612, 613, 555, 556, 557, 558, 514, 101, 102, 103, 823, 824, 825, 826, 827, 828, 829, 830, 831, 832, 833, 834, 835, 836, 837, 838, 839, 840, 841, 842, 843, 844, 845, 846, 847, 848, 849, 850] (by decide +kernel) (by decide +kernel)
set_option maxRecDepth 20000 in
theorem gL_law_X9_bestAt : GoodIn wsL_law (wsV RL 107 RX9 yX9_bestAt wsX9_bestAt) := goodIn_app (goodIn_of _ (by decide +kernel)) ggL_law_X9_bestAt
set_option maxRecDepth 20000 in
theorem ggL_law_X8_take : GoodIn wsL_law wsX8_take := goodIn_r _ [626, 20, 427, 30, 618, 564, 565, 566, 2, 567, 26, 461, 462, 261, 262, 263, 264, 211, 38, 40, 265, 266, 267, 53, 268, 240, 68, 62, 64, 269, 270, 271, 272, 37, 273, 274, 275, 276, 277, 278, 279, 280, 281, 282, 283, 284, 285, 286, 287, 288, 289, 290, 67, 65, 568, 569, 570, 29, 571, 81, 82, 572, 573, 574, 575, 576, 577, 578, 579, 580, 581, 582, 296, 229, 297, 583, 544, 545, 25, 546, 76, 584, 585, 586, 587, 588, 589, 590, 591, 592, 593, 594, 595, 596, 348, 349, 350, 351, 352, 353, 354, 813, 814, 815, 816, 817, 818, 819, 820, 821, 822, 853, 854, 855, 856, 857, 863, 864, 865, 866, 869, 870, 871, 872, 873, 874, 875, 876, 877, 858, 859, 860, 861, 862] (by decide +kernel) (by decide +kernel)
set_option maxRecDepth 20000 in
theorem gL_law_X8_take : GoodIn wsL_law (wsV RL 108 RX8 yX8_take wsX8_take) := goodIn_app (goodIn_of _ (by decide +kernel)) ggL_law_X8_take
set_option maxRecDepth 20000 in
theorem ggL_law_X9_take : GoodIn wsL_law wsX9_take := goodIn_r _ [630, 100, 105, 601, 602, 603, 5, 604, 104, 112, 605, 360, 361, 362, 363, 99, 115, 306, 307, 308, 309, 310, 97, 96, 311, 312, 313, 314, 133, 134, 135, 606, 607, 608, 609, 114, 113, 610, 611, 612, 613, 555, 556, 557, 558, 514, 101, 102, 103, 823, 824, 825, 826, 827, 828, 829, 830, 831, 832, 833, 834, 835, 836, 837, 838, 839, 840, 841, 842, 843, 844, 845, 846, 847, 848, 849, 850] (by decide +kernel) (by decide +kernel)
set_option maxRecDepth 20000 in
theorem gL_law_X9_take : GoodIn wsL_law (wsV RL 111 RX9 yX9_take wsX9_take) := goodIn_app (goodIn_of _ (by decide +kernel)) ggL_law_X9_take
set_option maxRecDepth 20000 in
theorem ggL_law_X8_near : GoodIn wsL_law wsX8_near := goodIn_r _ [634, 635, 636, 637, 2, 638, 639, 590, 574, 591, 20, 427, 640, 573, 575, 431, 337, 229, 338, 813, 814, 815, 816, 817, 818, 819, 820, 821, 822, 853, 854, 855, 856, 857] (by decide +kernel) (by decide +kernel)
set_option maxRecDepth 20000 in
theorem gL_law_X8_near : GoodIn wsL_law (wsV RL 112 RX8 yX8_near wsX8_near) := goodIn_app (goodIn_of _ (by decide +kernel)) ggL_law_X8_near
set_option maxRecDepth 20000 in
theorem ggL_law_X9_near : GoodIn wsL_law wsX9_near := goodIn_r _ [644, 130, 133, 134, 5, 135, 645, 646, 647, 648, 100, 823, 824, 825, 826, 827, 828, 829, 830, 831, 832, 833, 834, 835, 836, 837, 838, 839, 840, 841, 842, 843, 844, 845, 846, 847, 848, 849, 850] (by decide +kernel) (by decide +kernel)
set_option maxRecDepth 20000 in
theorem gL_law_X9_near : GoodIn wsL_law (wsV RL 115 RX9 yX9_near wsX9_near) := goodIn_app (goodIn_of _ (by decide +kernel)) ggL_law_X9_near
set_option maxRecDepth 20000 in
theorem ggL_law_X8_brief : GoodIn wsL_law wsX8_brief := goodIn_r _ [652, 635, 636, 637, 2, 638, 639, 590, 574, 591, 20, 427, 640, 573, 575, 431, 337, 229, 338, 813, 814, 815, 816, 817, 818, 819, 820, 821, 822, 853, 854, 855, 856, 857] (by decide +kernel) (by decide +kernel)
set_option maxRecDepth 20000 in
theorem gL_law_X8_brief : GoodIn wsL_law (wsV RL 116 RX8 yX8_brief wsX8_brief) := goodIn_app (goodIn_of _ (by decide +kernel)) ggL_law_X8_brief
set_option maxRecDepth 20000 in
theorem ggL_law_X9_brief : GoodIn wsL_law wsX9_brief := goodIn_r _ [656, 657, 133, 134, 5, 135, 645, 646, 647, 648, 100, 823, 824, 825, 826, 827, 828, 829, 830, 831, 832, 833, 834, 835, 836, 837, 838, 839, 840, 841, 842, 843, 844, 845, 846, 847, 848, 849, 850] (by decide +kernel) (by decide +kernel)
set_option maxRecDepth 20000 in
theorem gL_law_X9_brief : GoodIn wsL_law (wsV RL 119 RX9 yX9_brief wsX9_brief) := goodIn_app (goodIn_of _ (by decide +kernel)) ggL_law_X9_brief
set_option maxRecDepth 20000 in
theorem ggL_law_X8_swap : GoodIn wsL_law wsX8_swap := goodIn_r _ [661, 20, 427, 26, 258, 259, 2, 260, 431, 337, 229, 338, 531, 532, 533, 25, 534, 75, 74, 73, 509, 535, 477, 478, 231, 479, 536, 349, 350, 351, 352, 353, 354, 537, 538, 539, 540, 475, 541, 542, 543, 544, 545, 546, 76, 662, 663, 664, 813, 814, 815, 816, 817, 818, 819, 820, 821, 822, 853, 854, 855, 856, 857, 858, 859, 860, 861, 862] (by decide +kernel) (by decide +kernel)
set_option maxRecDepth 20000 in
theorem gL_law_X8_swap : GoodIn wsL_law (wsV RL 120 RX8 yX8_swap wsX8_swap) := goodIn_app (goodIn_of _ (by decide +kernel)) ggL_law_X8_swap
set_option maxRecDepth 20000 in
theorem ggL_law_X9_swap : GoodIn wsL_law wsX9_swap := goodIn_r _ [668, 100, 302, 303, 5, 304, 305, 133, 134, 135, 551, 552, 553, 554, 114, 112, 113, 555, 556, 557, 558, 514, 101, 102, 103, 823, 824, 825, 826, 827, 828, 829, 830, 831, 832, 833, 834, 835, 836, 837, 838, 839, 840, 841, 842, 843, 844, 845, 846, 847, 848, 849, 850] (by decide +kernel) (by decide +kernel)
set_option maxRecDepth 20000 in
theorem gL_law_X9_swap : GoodIn wsL_law (wsV RL 123 RX9 yX9_swap wsX9_swap) := goodIn_app (goodIn_of _ (by decide +kernel)) ggL_law_X9_swap
set_option maxRecDepth 20000 in
theorem ggL_law_X8_owed : GoodIn wsL_law wsX8_owed := goodIn_r _ [672, 258, 259, 2, 260, 673, 233, 229, 234, 235, 674, 675, 676, 677, 462, 20, 427, 463, 461, 261, 262, 263, 264, 211, 38, 40, 265, 266, 267, 53, 268, 240, 68, 62, 64, 269, 270, 271, 272, 37, 273, 274, 275, 276, 277, 278, 279, 280, 281, 282, 283, 284, 285, 286, 287, 288, 289, 290, 67, 65, 348, 349, 350, 351, 352, 353, 354, 869, 870, 871, 813, 814, 815, 816, 817, 818, 819, 820, 821, 822, 853, 854, 855, 856, 857, 872, 873, 874, 875, 876, 877] (by decide +kernel) (by decide +kernel)
set_option maxRecDepth 20000 in
theorem gL_law_X8_owed : GoodIn wsL_law (wsV RL 124 RX8 yX8_owed wsX8_owed) := goodIn_app (goodIn_of _ (by decide +kernel)) ggL_law_X8_owed
set_option maxRecDepth 20000 in
theorem ggL_law_X9_owed : GoodIn wsL_law wsX9_owed := goodIn_r _ [681, 302, 303, 5, 304, 305, 133, 134, 135, 360, 361, 362, 363, 99, 115, 306, 307, 308, 309, 310, 97, 96, 311, 312, 313, 314, 682, 683, 684, 685, 100, 823, 824, 825, 826, 827, 828, 829, 830, 831, 832, 833, 834, 835, 836, 837, 838, 839, 840, 841, 842, 843, 844, 845, 846, 847, 848, 849, 850] (by decide +kernel) (by decide +kernel)
set_option maxRecDepth 20000 in
theorem gL_law_X9_owed : GoodIn wsL_law (wsV RL 127 RX9 yX9_owed wsX9_owed) := goodIn_app (goodIn_of _ (by decide +kernel)) ggL_law_X9_owed
set_option maxRecDepth 20000 in
theorem ggL_law_X8_even : GoodIn wsL_law wsX8_even := goodIn_r _ [689, 673, 233, 229, 234, 235, 674, 675, 676, 2, 677, 462, 20, 427, 463, 461, 261, 262, 263, 264, 211, 38, 40, 265, 266, 267, 53, 268, 240, 68, 62, 64, 269, 270, 271, 272, 37, 273, 274, 275, 276, 277, 278, 279, 280, 281, 282, 283, 284, 285, 286, 287, 288, 289, 290, 67, 65, 348, 349, 350, 351, 352, 353, 354, 869, 870, 871, 813, 814, 815, 816, 817, 818, 819, 820, 821, 822, 853, 854, 855, 856, 857, 872, 873, 874, 875, 876, 877] (by decide +kernel) (by decide +kernel)
set_option maxRecDepth 20000 in
theorem gL_law_X8_even : GoodIn wsL_law (wsV RL 128 RX8 yX8_even wsX8_even) := goodIn_app (goodIn_of _ (by decide +kernel)) ggL_law_X8_even
set_option maxRecDepth 20000 in
theorem ggL_law_X9_even : GoodIn wsL_law wsX9_even := goodIn_r _ [693, 360, 361, 362, 5, 363, 99, 115, 306, 307, 308, 309, 310, 97, 96, 311, 312, 313, 314, 133, 134, 135, 682, 683, 684, 685, 100, 823, 824, 825, 826, 827, 828, 829, 830, 831, 832, 833, 834, 835, 836, 837, 838, 839, 840, 841, 842, 843, 844, 845, 846, 847, 848, 849, 850] (by decide +kernel) (by decide +kernel)
set_option maxRecDepth 20000 in
theorem gL_law_X9_even : GoodIn wsL_law (wsV RL 131 RX9 yX9_even wsX9_even) := goodIn_app (goodIn_of _ (by decide +kernel)) ggL_law_X9_even
set_option maxRecDepth 20000 in
theorem ggL_law_X8_wedding : GoodIn wsL_law wsX8_wedding := goodIn_r _ [697, 20, 427, 258, 259, 2, 260, 428, 429, 430, 431, 337, 229, 338, 698, 699, 700, 701, 639, 590, 574, 591, 640, 573, 575, 26, 662, 663, 664, 531, 532, 533, 25, 534, 75, 74, 73, 509, 535, 477, 478, 231, 479, 536, 349, 350, 351, 352, 353, 354, 537, 538, 539, 540, 475, 541, 542, 543, 544, 545, 546, 76, 813, 814, 815, 816, 817, 818, 819, 820, 821, 822, 853, 854, 855, 856, 857, 858, 859, 860, 861, 862] (by decide +kernel) (by decide +kernel)
