set_option maxRecDepth 20000 in
theorem ggL_law_X8_now : GoodIn wsL_law wsX8_now := goodIn_r _ [546, 398, 112, 121, 399, 402, 855, 856, 857, 858, 859, 860, 861, 862, 863, 864, 865, 866, 867, 868, 869, 870, 871, 872, 873, 874, 875, 876, 877, 878, 879, 880, 881, 882, 883, 884, 885, 886, 887] (by decide +kernel) (by decide +kernel)
set_option maxRecDepth 20000 in
theorem gL_law_X8_now : GoodIn wsL_law (wsV RL 58 RX8 yX8_now wsX8_now) := goodIn_app (goodIn_of _ (by decide +kernel)) ggL_law_X8_now
set_option maxRecDepth 20000 in
theorem ggL_law_X7_behind : GoodIn wsL_law wsX7_behind := goodIn_r _ [550, 32, 24, 37, 551, 409, 552, 553, 2, 554, 415, 416, 417, 418, 419, 555, 556, 557, 31, 558, 74, 559, 560, 561, 23, 562, 326, 327, 328, 329, 61, 563, 564, 565, 566, 567, 450, 451, 452, 453, 62, 454, 455, 456, 425, 426, 457, 458, 459, 460, 461, 462, 845, 846, 847, 848, 849, 850, 851, 852, 853, 854, 908, 909, 910, 896, 897, 898, 899, 900, 901, 902, 903, 911, 912, 913, 914, 915, 916, 917, 918, 919] (by decide +kernel) (by decide +kernel)
set_option maxRecDepth 20000 in
theorem gL_law_X7_behind : GoodIn wsL_law (wsV RL 59 RX7 yX7_behind wsX7_behind) := goodIn_app (goodIn_of _ (by decide +kernel)) ggL_law_X7_behind
set_option maxRecDepth 20000 in
theorem ggL_law_X8_behind : GoodIn wsL_law wsX8_behind := goodIn_r _ [571, 572, 400, 401, 115, 143, 144, 5, 145, 431, 432, 433, 434, 398, 573, 574, 575, 576, 112, 577, 578, 579, 580, 399, 467, 468, 469, 470, 113, 110, 109, 108, 111, 855, 856, 857, 858, 859, 860, 861, 862, 863, 864, 865, 866, 867, 868, 869, 870, 871, 872, 873, 874, 875, 876, 877, 878, 879, 880, 881, 882, 883, 884, 885, 886, 887] (by decide +kernel) (by decide +kernel)
set_option maxRecDepth 20000 in
theorem gL_law_X8_behind : GoodIn wsL_law (wsV RL 62 RX8 yX8_behind wsX8_behind) := goodIn_app (goodIn_of _ (by decide +kernel)) ggL_law_X8_behind
set_option maxRecDepth 20000 in
theorem ggL_law_X7_first : GoodIn wsL_law wsX7_first := goodIn_r _ [584, 32, 24, 551, 37, 475, 476, 2, 477, 555, 556, 557, 31, 558, 74, 559, 560, 561, 23, 562, 326, 327, 328, 329, 61, 534, 535, 536, 537, 453, 538, 585, 586, 587, 424, 425, 426, 563, 564, 565, 566, 567, 450, 451, 452, 62, 454, 455, 456, 457, 458, 459, 460, 461, 462, 845, 846, 847, 848, 849, 850, 851, 852, 853, 854, 908, 909, 910, 896, 897, 898, 899, 900, 901, 902, 903, 911, 912, 913, 914, 915, 916, 917, 918, 919] (by decide +kernel) (by decide +kernel)
set_option maxRecDepth 20000 in
theorem gL_law_X7_first : GoodIn wsL_law (wsV RL 63 RX7 yX7_first wsX7_first) := goodIn_app (goodIn_of _ (by decide +kernel)) ggL_law_X7_first
set_option maxRecDepth 20000 in
theorem ggL_law_X8_first : GoodIn wsL_law wsX8_first := goodIn_r _ [591, 115, 399, 400, 401, 143, 144, 5, 145, 573, 574, 575, 576, 398, 112, 592, 593, 594, 595, 121, 467, 468, 469, 470, 113, 110, 109, 108, 111, 855, 856, 857, 858, 859, 860, 861, 862, 863, 864, 865, 866, 867, 868, 869, 870, 871, 872, 873, 874, 875, 876, 877, 878, 879, 880, 881, 882, 883, 884, 885, 886, 887] (by decide +kernel) (by decide +kernel)
set_option maxRecDepth 20000 in
theorem gL_law_X8_first : GoodIn wsL_law (wsV RL 66 RX8 yX8_first wsX8_first) := goodIn_app (goodIn_of _ (by decide +kernel)) ggL_law_X8_first
set_option maxRecDepth 20000 in
theorem ggL_law_X7_rest : GoodIn wsL_law wsX7_rest := goodIn_r _ [599, 32, 24, 37, 555, 556, 557, 31, 558, 74, 559, 560, 561, 23, 562, 326, 327, 328, 329, 61, 600, 601, 602, 603, 604, 77, 605, 606, 607, 608, 609, 567, 450, 451, 452, 453, 62, 454, 455, 456, 425, 2, 426, 457, 458, 459, 460, 461, 462, 845, 846, 847, 848, 849, 850, 851, 852, 853, 854, 908, 909, 910, 896, 897, 898, 899, 900, 901, 902, 903, 911, 912, 913, 914, 915, 916, 917, 918, 919] (by decide +kernel) (by decide +kernel)
set_option maxRecDepth 20000 in
theorem gL_law_X7_rest : GoodIn wsL_law (wsV RL 67 RX7 yX7_rest wsX7_rest) := goodIn_app (goodIn_of _ (by decide +kernel)) ggL_law_X7_rest
set_option maxRecDepth 20000 in
theorem ggL_law_X8_rest : GoodIn wsL_law wsX8_rest := goodIn_r _ [613, 400, 401, 398, 116, 115, 399, 573, 574, 575, 5, 576, 112, 577, 578, 579, 580, 467, 468, 469, 470, 113, 110, 109, 108, 111, 855, 856, 857, 858, 859, 860, 861, 862, 863, 864, 865, 866, 867, 868, 869, 870, 871, 872, 873, 874, 875, 876, 877, 878, 879, 880, 881, 882, 883, 884, 885, 886, 887] (by decide +kernel) (by decide +kernel)
set_option maxRecDepth 20000 in
theorem gL_law_X8_rest : GoodIn wsL_law (wsV RL 70 RX8 yX8_rest wsX8_rest) := goodIn_app (goodIn_of _ (by decide +kernel)) ggL_law_X8_rest
