/-! THE LAW: its words, 7 -/
set_option maxRecDepth 20000 in
theorem ggL_law_X9_kiss : GoodIn wsL_law wsX9_kiss := goodIn_r _ [572, 34, 372, 573, 373, 374, 375, 2, 376, 172, 461, 462, 463, 464, 350, 465, 38, 466, 467, 468, 469, 470, 471, 472, 473, 352, 353, 354, 32, 355, 75, 333, 77, 334, 356, 357, 358, 74, 359, 86, 87, 88, 89, 90, 91, 360, 361, 362, 45, 363, 100, 101, 102, 103, 104, 105, 106, 107, 108, 109, 110, 111, 574, 575, 576, 577, 814, 815, 816, 817, 818, 819, 820, 821, 822, 823, 824, 825, 826, 827, 828, 860, 861, 862, 863, 864, 865, 866, 867, 868, 869, 870, 871, 872, 873, 874, 875, 876, 877, 878, 879, 880, 881] (by decide +kernel) (by decide +kernel)
set_option maxRecDepth 20000 in
theorem gL_law_X9_kiss : GoodIn wsL_law (wsV RL 48 RX9 yX9_kiss wsX9_kiss) := goodIn_app (goodIn_of _ (by decide +kernel)) ggL_law_X9_kiss
set_option maxRecDepth 20000 in
theorem ggL_law_X10_kiss : GoodIn wsL_law wsX10_kiss := goodIn_r _ [581, 121, 399, 400, 401, 5, 402, 136, 157, 158, 159, 534, 535, 536, 537, 137, 538, 539, 540, 541, 582, 583, 584, 585, 829, 830, 831, 832, 833, 834, 835, 836, 837, 838, 839, 840, 841, 842, 843, 844, 845, 846, 847, 848, 849, 850, 851] (by decide +kernel) (by decide +kernel)
set_option maxRecDepth 20000 in
theorem gL_law_X10_kiss : GoodIn wsL_law (wsV RL 51 RX10 yX10_kiss wsX10_kiss) := goodIn_app (goodIn_of _ (by decide +kernel)) ggL_law_X10_kiss
set_option maxRecDepth 20000 in
theorem ggL_law_X9_mother : GoodIn wsL_law wsX9_mother := goodIn_r _ [589, 34, 372, 573, 373, 374, 375, 2, 376, 172, 461, 462, 463, 464, 350, 465, 38, 466, 467, 468, 469, 470, 471, 472, 473, 352, 353, 354, 32, 355, 75, 333, 77, 334, 356, 357, 358, 74, 359, 86, 87, 88, 89, 90, 91, 360, 361, 362, 45, 363, 100, 101, 102, 103, 104, 105, 106, 107, 108, 109, 110, 111, 590, 591, 592, 593, 482, 185, 186, 187, 814, 815, 816, 817, 818, 819, 820, 821, 822, 823, 824, 825, 826, 827, 828, 860, 861, 862, 863, 864, 865, 866, 867, 868, 869, 870, 871, 872, 873, 874, 875, 876, 877, 878, 879, 880, 881] (by decide +kernel) (by decide +kernel)
set_option maxRecDepth 20000 in
theorem gL_law_X9_mother : GoodIn wsL_law (wsV RL 52 RX9 yX9_mother wsX9_mother) := goodIn_app (goodIn_of _ (by decide +kernel)) ggL_law_X9_mother
