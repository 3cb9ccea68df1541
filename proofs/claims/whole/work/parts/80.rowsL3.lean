set_option maxRecDepth 20000 in
theorem ggL_law_X7_shut : GoodIn wsL_law wsX7_shut := goodIn_r _ [475, 24, 414, 416, 417, 418, 2, 419, 37, 420, 476, 477, 478, 425, 426, 427, 479, 480, 481, 23, 482, 331, 63, 483, 484, 485, 486, 328, 329, 487, 488, 489, 490, 491, 492, 493, 846, 847, 848, 849, 850, 851, 852, 853, 854, 855, 897, 898, 899, 900, 901, 902, 903, 904, 912, 913, 914, 915, 916, 917, 918, 919, 920] (by decide +kernel) (by decide +kernel)
set_option maxRecDepth 20000 in
theorem gL_law_X7_shut : GoodIn wsL_law (wsV RL 42 RX7 yX7_shut wsX7_shut) := goodIn_app (goodIn_of _ (by decide +kernel)) ggL_law_X7_shut
set_option maxRecDepth 20000 in
theorem ggL_law_X8_shut : GoodIn wsL_law wsX8_shut := goodIn_r _ [497, 401, 432, 433, 434, 5, 435, 399, 143, 144, 145, 498, 499, 500, 501, 404, 114, 502, 503, 504, 856, 857, 858, 859, 860, 861, 862, 863, 864, 865, 866, 867, 868, 869, 870, 871, 872, 873, 874, 875, 876, 877, 878, 879, 880, 881, 882, 883, 884, 885, 886, 887, 888] (by decide +kernel) (by decide +kernel)
set_option maxRecDepth 20000 in
theorem gL_law_X8_shut : GoodIn wsL_law (wsV RL 45 RX8 yX8_shut wsX8_shut) := goodIn_app (goodIn_of _ (by decide +kernel)) ggL_law_X8_shut
set_option maxRecDepth 20000 in
theorem ggL_law_X7_mirror : GoodIn wsL_law wsX7_mirror := goodIn_r _ [508, 24, 415, 416, 417, 418, 2, 419, 37, 420, 476, 477, 478, 425, 426, 427, 479, 480, 481, 23, 482, 331, 63, 483, 484, 485, 486, 328, 329, 487, 488, 489, 490, 491, 492, 493, 846, 847, 848, 849, 850, 851, 852, 853, 854, 855, 897, 898, 899, 900, 901, 902, 903, 904, 912, 913, 914, 915, 916, 917, 918, 919, 920] (by decide +kernel) (by decide +kernel)
set_option maxRecDepth 20000 in
theorem gL_law_X7_mirror : GoodIn wsL_law (wsV RL 46 RX7 yX7_mirror wsX7_mirror) := goodIn_app (goodIn_of _ (by decide +kernel)) ggL_law_X7_mirror
set_option maxRecDepth 20000 in
theorem ggL_law_X8_mirror : GoodIn wsL_law wsX8_mirror := goodIn_r _ [512, 402, 432, 433, 434, 5, 435, 399, 143, 144, 145, 498, 499, 500, 501, 404, 114, 502, 503, 504, 856, 857, 858, 859, 860, 861, 862, 863, 864, 865, 866, 867, 868, 869, 870, 871, 872, 873, 874, 875, 876, 877, 878, 879, 880, 881, 882, 883, 884, 885, 886, 887, 888] (by decide +kernel) (by decide +kernel)
set_option maxRecDepth 20000 in
theorem gL_law_X8_mirror : GoodIn wsL_law (wsV RL 49 RX8 yX8_mirror wsX8_mirror) := goodIn_app (goodIn_of _ (by decide +kernel)) ggL_law_X8_mirror
set_option maxRecDepth 20000 in
theorem ggL_law_X7_undo : GoodIn wsL_law wsX7_undo := goodIn_r _ [516, 24, 517, 518, 519, 520, 23, 521, 331, 63, 483, 484, 485, 486, 328, 329, 846, 847, 848, 849, 850, 851, 852, 853, 854, 855, 897, 898, 899, 900, 901, 902, 903, 904] (by decide +kernel) (by decide +kernel)
set_option maxRecDepth 20000 in
theorem gL_law_X7_undo : GoodIn wsL_law (wsV RL 50 RX7 yX7_undo wsX7_undo) := goodIn_app (goodIn_of _ (by decide +kernel)) ggL_law_X7_undo
set_option maxRecDepth 20000 in
theorem ggL_law_X8_undo : GoodIn wsL_law wsX8_undo := goodIn_r _ [525, 404, 114, 401, 402, 856, 857, 858, 859, 860, 861, 862, 863, 864, 865, 866, 867, 868, 869, 870, 871, 872, 873, 874, 875, 876, 877, 878, 879, 880, 881, 882, 883, 884, 885, 886, 887, 888] (by decide +kernel) (by decide +kernel)
set_option maxRecDepth 20000 in
theorem gL_law_X8_undo : GoodIn wsL_law (wsV RL 53 RX8 yX8_undo wsX8_undo) := goodIn_app (goodIn_of _ (by decide +kernel)) ggL_law_X8_undo
set_option maxRecDepth 20000 in
theorem ggL_law_X7_now : GoodIn wsL_law wsX7_now := goodIn_r _ [529, 24, 449, 37, 420, 530, 531, 532, 533, 23, 534, 61, 535, 536, 537, 538, 454, 539, 540, 541, 542, 543, 846, 847, 848, 849, 850, 851, 852, 853, 854, 855, 897, 898, 899, 900, 901, 902, 903, 904, 912, 913, 914, 915, 916, 917, 918, 919, 920] (by decide +kernel) (by decide +kernel)
set_option maxRecDepth 20000 in
theorem gL_law_X7_now : GoodIn wsL_law (wsV RL 54 RX7 yX7_now wsX7_now) := goodIn_app (goodIn_of _ (by decide +kernel)) ggL_law_X7_now
