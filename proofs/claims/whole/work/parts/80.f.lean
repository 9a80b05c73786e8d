/-! THE LAW: its words, 6 -/
set_option maxRecDepth 20000 in
theorem ggL_law_X10_term : GoodIn wsL_law wsX10_term := goodIn_r _ [456, 121, 157, 158, 5, 159, 829, 830, 831, 832, 833, 834, 835, 836, 837, 838, 839, 840, 841, 842, 843, 844, 845, 846, 847, 848, 849, 850, 851] (by decide +kernel) (by decide +kernel)
set_option maxRecDepth 20000 in
theorem gL_law_X10_term : GoodIn wsL_law (wsV RL 43 RX10 yX10_term wsX10_term) := goodIn_app (goodIn_of _ (by decide +kernel)) ggL_law_X10_term
set_option maxRecDepth 20000 in
theorem ggL_law_X9_day : GoodIn wsL_law wsX9_day := goodIn_r _ [460, 34, 408, 461, 462, 463, 2, 464, 350, 465, 38, 466, 467, 468, 469, 470, 471, 472, 473, 352, 353, 354, 32, 355, 75, 333, 77, 334, 356, 357, 358, 74, 359, 86, 87, 88, 89, 90, 91, 360, 361, 362, 45, 363, 100, 101, 102, 103, 104, 105, 106, 107, 108, 109, 110, 111, 474, 475, 476, 477, 478, 479, 480, 481, 482, 185, 186, 187, 483, 484, 485, 417, 418, 419, 51, 420, 421, 422, 423, 424, 22, 425, 426, 427, 428, 429, 28, 430, 431, 432, 433, 434, 25, 435, 436, 486, 487, 488, 489, 490, 491, 492, 493, 494, 495, 496, 497, 498, 499, 500, 501, 502, 503, 504, 505, 506, 507, 508, 509, 14, 510, 511, 512, 513, 514, 515, 516, 517, 518, 519, 520, 521, 522, 523, 524, 525, 526, 527, 528, 529, 814, 815, 816, 817, 818, 819, 820, 821, 822, 823, 824, 825, 826, 827, 828, 860, 861, 862, 863, 876, 877, 878, 879, 880, 881, 864, 865, 866, 867, 868, 869, 870, 871, 872, 873, 874, 875] (by decide +kernel) (by decide +kernel)
set_option maxRecDepth 20000 in
theorem gL_law_X9_day : GoodIn wsL_law (wsV RL 44 RX9 yX9_day wsX9_day) := goodIn_app (goodIn_of _ (by decide +kernel)) ggL_law_X9_day
set_option maxRecDepth 20000 in
theorem ggL_law_X10_day : GoodIn wsL_law wsX10_day := goodIn_r _ [533, 121, 534, 535, 536, 5, 537, 137, 538, 539, 540, 541, 542, 543, 544, 545, 136, 441, 442, 443, 444, 124, 123, 546, 547, 548, 549, 550, 551, 552, 553, 554, 555, 556, 557, 558, 559, 560, 561, 562, 563, 564, 565, 566, 567, 568, 829, 830, 831, 832, 833, 834, 835, 836, 837, 838, 839, 840, 841, 842, 843, 844, 845, 846, 847, 848, 849, 850, 851] (by decide +kernel) (by decide +kernel)
set_option maxRecDepth 20000 in
theorem gL_law_X10_day : GoodIn wsL_law (wsV RL 47 RX10 yX10_day wsX10_day) := goodIn_app (goodIn_of _ (by decide +kernel)) ggL_law_X10_day
