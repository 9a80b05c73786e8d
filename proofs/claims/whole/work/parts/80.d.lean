/-! THE LAW: its words, 4 -/
set_option maxRecDepth 20000 in
theorem ggL_law_X10_desk : GoodIn wsL_law wsX10_desk := goodIn_r _ [367, 156, 273, 136, 123, 129, 124, 125, 126, 130, 275, 269, 270, 271, 5, 272, 274, 268, 127, 276, 277, 278, 279, 280, 281, 282, 283, 284, 285, 286, 287, 157, 158, 159, 288, 289, 290, 291, 292, 293, 294, 295, 296, 297, 298, 299, 117, 300, 301, 302, 303, 118, 304, 305, 306, 307, 308, 309, 310, 311, 312, 313, 314, 315, 119, 120, 132, 133, 134, 135, 121, 137, 138, 122, 829, 830, 831, 832, 833, 834, 835, 836, 837, 838, 839, 840, 841, 842, 843, 844, 845, 846, 847, 848, 849, 850, 851] (by decide +kernel) (by decide +kernel)
set_option maxRecDepth 20000 in
theorem gL_law_X10_desk : GoodIn wsL_law (wsV RL 30 RX10 yX10_desk wsX10_desk) := goodIn_app (goodIn_of _ (by decide +kernel)) ggL_law_X10_desk
set_option maxRecDepth 20000 in
theorem ggL_law_X9_couple : GoodIn wsL_law wsX9_couple := goodIn_r _ [371, 34, 372, 373, 374, 375, 2, 376, 172, 377, 378, 379, 45, 380, 100, 101, 102, 103, 104, 105, 106, 108, 109, 110, 381, 382, 383, 384, 14, 385, 386, 387, 22, 388, 389, 390, 28, 391, 392, 393, 25, 394, 814, 815, 816, 817, 818, 819, 820, 821, 822, 823, 824, 825, 826, 827, 828, 860, 861, 862, 863, 864, 865, 866, 867, 868, 869, 870, 871, 872, 873, 874, 875] (by decide +kernel) (by decide +kernel)
set_option maxRecDepth 20000 in
theorem gL_law_X9_couple : GoodIn wsL_law (wsV RL 31 RX9 yX9_couple wsX9_couple) := goodIn_app (goodIn_of _ (by decide +kernel)) ggL_law_X9_couple
set_option maxRecDepth 20000 in
theorem ggL_law_X10_couple : GoodIn wsL_law wsX10_couple := goodIn_r _ [398, 123, 124, 121, 399, 400, 401, 5, 402, 136, 157, 158, 159, 829, 830, 831, 832, 833, 834, 835, 836, 837, 838, 839, 840, 841, 842, 843, 844, 845, 846, 847, 848, 849, 850, 851] (by decide +kernel) (by decide +kernel)
set_option maxRecDepth 20000 in
theorem gL_law_X10_couple : GoodIn wsL_law (wsV RL 35 RX10 yX10_couple wsX10_couple) := goodIn_app (goodIn_of _ (by decide +kernel)) ggL_law_X10_couple
