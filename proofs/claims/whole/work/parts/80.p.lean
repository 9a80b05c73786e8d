/-! THE LAW: its words, 16 -/
set_option maxRecDepth 20000 in
theorem ggL_law_X10_forget : GoodIn wsL_law wsX10_forget := goodIn_r _ [750, 138, 829, 830, 831, 832, 833, 834, 835, 836, 837, 838, 839, 840, 841, 842, 843, 844, 845, 846, 847, 848, 849, 850, 851] (by decide +kernel) (by decide +kernel)
set_option maxRecDepth 20000 in
theorem gL_law_X10_forget : GoodIn wsL_law (wsV RL 104 RX10 yX10_forget wsX10_forget) := goodIn_app (goodIn_of _ (by decide +kernel)) ggL_law_X10_forget
set_option maxRecDepth 20000 in
theorem ggL_law_X9_tempers : GoodIn wsL_law wsX9_tempers := goodIn_r _ [754, 373, 374, 375, 2, 376, 34, 172, 755, 756, 757, 758, 351, 40, 41, 42, 759, 760, 761, 762, 46, 372, 763, 573, 643, 361, 362, 45, 363, 100, 101, 102, 103, 104, 105, 106, 107, 108, 109, 110, 111, 644, 645, 646, 647, 408, 328, 648, 479, 480, 481, 482, 185, 186, 187, 483, 484, 485, 417, 418, 419, 51, 420, 421, 422, 423, 424, 22, 425, 426, 427, 428, 429, 28, 430, 431, 432, 433, 434, 25, 435, 436, 486, 487, 488, 489, 490, 491, 492, 493, 494, 495, 496, 497, 498, 499, 500, 501, 502, 503, 504, 505, 506, 507, 508, 509, 14, 510, 511, 512, 513, 514, 515, 516, 517, 518, 519, 520, 521, 522, 523, 524, 525, 526, 527, 528, 529, 814, 815, 816, 817, 818, 819, 820, 821, 822, 823, 824, 825, 826, 827, 828, 860, 861, 862, 863, 864, 865, 866, 867, 868, 869, 870, 871, 872, 873, 874, 875, 876, 877, 878, 879, 880, 881] (by decide +kernel) (by decide +kernel)
set_option maxRecDepth 20000 in
theorem gL_law_X9_tempers : GoodIn wsL_law (wsV RL 105 RX9 yX9_tempers wsX9_tempers) := goodIn_app (goodIn_of _ (by decide +kernel)) ggL_law_X9_tempers
set_option maxRecDepth 20000 in
theorem ggL_law_X10_tempers : GoodIn wsL_law wsX10_tempers := goodIn_r _ [767, 124, 399, 400, 401, 5, 402, 136, 157, 158, 159, 768, 769, 770, 771, 138, 128, 121, 654, 655, 656, 657, 538, 539, 540, 541, 542, 543, 544, 545, 441, 442, 443, 444, 123, 546, 547, 548, 549, 550, 551, 552, 553, 554, 555, 556, 557, 558, 559, 560, 561, 562, 563, 564, 565, 566, 567, 568, 829, 830, 831, 832, 833, 834, 835, 836, 837, 838, 839, 840, 841, 842, 843, 844, 845, 846, 847, 848, 849, 850, 851] (by decide +kernel) (by decide +kernel)
set_option maxRecDepth 20000 in
theorem gL_law_X10_tempers : GoodIn wsL_law (wsV RL 108 RX10 yX10_tempers wsX10_tempers) := goodIn_app (goodIn_of _ (by decide +kernel)) ggL_law_X10_tempers
