set_option maxRecDepth 20000 in
theorem ggL_law_X7_shut : GoodIn wsL_law wsX7_shut := goodIn_r _ [474, 24, 413, 415, 416, 417, 2, 418, 37, 419, 475, 476, 477, 424, 425, 426, 478, 479, 480, 23, 481, 330, 63, 482, 483, 484, 485, 327, 328, 486, 487, 488, 489, 490, 491, 492, 845, 846, 847, 848, 849, 850, 851, 852, 853, 854, 896, 897, 898, 899, 900, 901, 902, 903, 911, 912, 913, 914, 915, 916, 917, 918, 919] (by decide +kernel) (by decide +kernel)
set_option maxRecDepth 20000 in
theorem gL_law_X7_shut : GoodIn wsL_law (wsV RL 42 RX7 yX7_shut wsX7_shut) := goodIn_app (goodIn_of _ (by decide +kernel)) ggL_law_X7_shut
set_option maxRecDepth 20000 in
theorem ggL_law_X8_shut : GoodIn wsL_law wsX8_shut := goodIn_r _ [496, 400, 431, 432, 433, 5, 434, 398, 143, 144, 145, 497, 498, 499, 500, 403, 114, 501, 502, 503, 855, 856, 857, 858, 859, 860, 861, 862, 863, 864, 865, 866, 867, 868, 869, 870, 871, 872, 873, 874, 875, 876, 877, 878, 879, 880, 881, 882, 883, 884, 885, 886, 887] (by decide +kernel) (by decide +kernel)
set_option maxRecDepth 20000 in
theorem gL_law_X8_shut : GoodIn wsL_law (wsV RL 45 RX8 yX8_shut wsX8_shut) := goodIn_app (goodIn_of _ (by decide +kernel)) ggL_law_X8_shut
set_option maxRecDepth 20000 in
theorem ggL_law_X7_mirror : GoodIn wsL_law wsX7_mirror := goodIn_r _ [507, 24, 414, 415, 416, 417, 2, 418, 37, 419, 475, 476, 477, 424, 425, 426, 478, 479, 480, 23, 481, 330, 63, 482, 483, 484, 485, 327, 328, 486, 487, 488, 489, 490, 491, 492, 845, 846, 847, 848, 849, 850, 851, 852, 853, 854, 896, 897, 898, 899, 900, 901, 902, 903, 911, 912, 913, 914, 915, 916, 917, 918, 919] (by decide +kernel) (by decide +kernel)
set_option maxRecDepth 20000 in
theorem gL_law_X7_mirror : GoodIn wsL_law (wsV RL 46 RX7 yX7_mirror wsX7_mirror) := goodIn_app (goodIn_of _ (by decide +kernel)) ggL_law_X7_mirror
set_option maxRecDepth 20000 in
theorem ggL_law_X8_mirror : GoodIn wsL_law wsX8_mirror := goodIn_r _ [511, 401, 431, 432, 433, 5, 434, 398, 143, 144, 145, 497, 498, 499, 500, 403, 114, 501, 502, 503, 855, 856, 857, 858, 859, 860, 861, 862, 863, 864, 865, 866, 867, 868, 869, 870, 871, 872, 873, 874, 875, 876, 877, 878, 879, 880, 881, 882, 883, 884, 885, 886, 887] (by decide +kernel) (by decide +kernel)
set_option maxRecDepth 20000 in
theorem gL_law_X8_mirror : GoodIn wsL_law (wsV RL 49 RX8 yX8_mirror wsX8_mirror) := goodIn_app (goodIn_of _ (by decide +kernel)) ggL_law_X8_mirror
set_option maxRecDepth 20000 in
theorem ggL_law_X7_undo : GoodIn wsL_law wsX7_undo := goodIn_r _ [515, 24, 516, 517, 518, 519, 23, 520, 330, 63, 482, 483, 484, 485, 327, 328, 845, 846, 847, 848, 849, 850, 851, 852, 853, 854, 896, 897, 898, 899, 900, 901, 902, 903] (by decide +kernel) (by decide +kernel)
set_option maxRecDepth 20000 in
theorem gL_law_X7_undo : GoodIn wsL_law (wsV RL 50 RX7 yX7_undo wsX7_undo) := goodIn_app (goodIn_of _ (by decide +kernel)) ggL_law_X7_undo
set_option maxRecDepth 20000 in
theorem ggL_law_X8_undo : GoodIn wsL_law wsX8_undo := goodIn_r _ [524, 403, 114, 400, 401, 855, 856, 857, 858, 859, 860, 861, 862, 863, 864, 865, 866, 867, 868, 869, 870, 871, 872, 873, 874, 875, 876, 877, 878, 879, 880, 881, 882, 883, 884, 885, 886, 887] (by decide +kernel) (by decide +kernel)
set_option maxRecDepth 20000 in
theorem gL_law_X8_undo : GoodIn wsL_law (wsV RL 53 RX8 yX8_undo wsX8_undo) := goodIn_app (goodIn_of _ (by decide +kernel)) ggL_law_X8_undo
set_option maxRecDepth 20000 in
theorem ggL_law_X7_now : GoodIn wsL_law wsX7_now := goodIn_r _ [528, 24, 448, 37, 419, 529, 530, 531, 532, 23, 533, 61, 534, 535, 536, 537, 453, 538, 539, 540, 541, 542, 845, 846, 847, 848, 849, 850, 851, 852, 853, 854, 896, 897, 898, 899, 900, 901, 902, 903, 911, 912, 913, 914, 915, 916, 917, 918, 919] (by decide +kernel) (by decide +kernel)
set_option maxRecDepth 20000 in
theorem gL_law_X7_now : GoodIn wsL_law (wsV RL 54 RX7 yX7_now wsX7_now) := goodIn_app (goodIn_of _ (by decide +kernel)) ggL_law_X7_now
