/-! THE LAW: its words, 9 -/
set_option maxRecDepth 20000 in
theorem ggL_law_X9_undo : GoodIn wsL_law wsX9_undo := goodIn_r _ [611, 350, 34, 38, 466, 467, 468, 2, 469, 465, 470, 471, 472, 473, 352, 353, 354, 32, 355, 75, 333, 77, 334, 356, 357, 358, 74, 359, 86, 87, 88, 89, 90, 91, 360, 361, 362, 45, 363, 100, 101, 102, 103, 104, 105, 106, 107, 108, 109, 110, 111, 814, 815, 816, 817, 818, 819, 820, 821, 822, 823, 824, 825, 826, 827, 828, 860, 861, 862, 863, 876, 877, 878, 879, 880, 881, 864, 865, 866, 867, 868, 869, 870, 871, 872, 873, 874, 875] (by decide +kernel) (by decide +kernel)
set_option maxRecDepth 20000 in
theorem gL_law_X9_undo : GoodIn wsL_law (wsV RL 60 RX9 yX9_undo wsX9_undo) := goodIn_app (goodIn_of _ (by decide +kernel)) ggL_law_X9_undo
set_option maxRecDepth 20000 in
theorem ggL_law_X10_undo : GoodIn wsL_law wsX10_undo := goodIn_r _ [615, 137, 538, 539, 540, 5, 541, 121, 829, 830, 831, 832, 833, 834, 835, 836, 837, 838, 839, 840, 841, 842, 843, 844, 845, 846, 847, 848, 849, 850, 851] (by decide +kernel) (by decide +kernel)
set_option maxRecDepth 20000 in
theorem gL_law_X10_undo : GoodIn wsL_law (wsV RL 63 RX10 yX10_undo wsX10_undo) := goodIn_app (goodIn_of _ (by decide +kernel)) ggL_law_X10_undo
set_option maxRecDepth 20000 in
theorem ggL_law_X9_keep : GoodIn wsL_law wsX9_keep := goodIn_r _ [619, 35, 34, 37, 408, 144, 145, 2, 146, 352, 353, 354, 32, 355, 75, 333, 77, 334, 356, 357, 358, 74, 359, 86, 87, 88, 89, 90, 91, 360, 361, 362, 45, 363, 100, 101, 102, 103, 104, 105, 106, 107, 108, 109, 110, 111, 814, 815, 816, 817, 818, 819, 820, 821, 822, 823, 824, 825, 826, 827, 828, 860, 861, 862, 863, 876, 877, 878, 879, 880, 881, 864, 865, 866, 867, 868, 869, 870, 871, 872, 873, 874, 875] (by decide +kernel) (by decide +kernel)
set_option maxRecDepth 20000 in
theorem gL_law_X9_keep : GoodIn wsL_law (wsV RL 64 RX9 yX9_keep wsX9_keep) := goodIn_app (goodIn_of _ (by decide +kernel)) ggL_law_X9_keep
