set_option maxRecDepth 20000 in
theorem ggL_law_X8_now : GoodIn wsL_law wsX8_now := goodIn_r _ [547, 399, 112, 121, 400, 403, 856, 857, 858, 859, 860, 861, 862, 863, 864, 865, 866, 867, 868, 869, 870, 871, 872, 873, 874, 875, 876, 877, 878, 879, 880, 881, 882, 883, 884, 885, 886, 887, 888] (by decide +kernel) (by decide +kernel)
set_option maxRecDepth 20000 in
theorem gL_law_X8_now : GoodIn wsL_law (wsV RL 58 RX8 yX8_now wsX8_now) := goodIn_app (goodIn_of _ (by decide +kernel)) ggL_law_X8_now
set_option maxRecDepth 20000 in
theorem ggL_law_X7_behind : GoodIn wsL_law wsX7_behind := goodIn_r _ [551, 32, 24, 37, 552, 410, 553, 554, 2, 555, 416, 417, 418, 419, 420, 556, 557, 558, 31, 559, 74, 560, 561, 562, 23, 563, 327, 328, 329, 330, 61, 564, 565, 566, 567, 568, 451, 452, 453, 454, 62, 455, 456, 457, 426, 427, 458, 459, 460, 461, 462, 463, 846, 847, 848, 849, 850, 851, 852, 853, 854, 855, 909, 910, 911, 897, 898, 899, 900, 901, 902, 903, 904, 912, 913, 914, 915, 916, 917, 918, 919, 920] (by decide +kernel) (by decide +kernel)
set_option maxRecDepth 20000 in
theorem gL_law_X7_behind : GoodIn wsL_law (wsV RL 59 RX7 yX7_behind wsX7_behind) := goodIn_app (goodIn_of _ (by decide +kernel)) ggL_law_X7_behind
set_option maxRecDepth 20000 in
theorem ggL_law_X8_behind : GoodIn wsL_law wsX8_behind := goodIn_r _ [572, 573, 401, 402, 115, 143, 144, 5, 145, 432, 433, 434, 435, 399, 574, 575, 576, 577, 112, 578, 579, 580, 581, 400, 468, 469, 470, 471, 113, 110, 109, 108, 111, 856, 857, 858, 859, 860, 861, 862, 863, 864, 865, 866, 867, 868, 869, 870, 871, 872, 873, 874, 875, 876, 877, 878, 879, 880, 881, 882, 883, 884, 885, 886, 887, 888] (by decide +kernel) (by decide +kernel)
set_option maxRecDepth 20000 in
theorem gL_law_X8_behind : GoodIn wsL_law (wsV RL 62 RX8 yX8_behind wsX8_behind) := goodIn_app (goodIn_of _ (by decide +kernel)) ggL_law_X8_behind
set_option maxRecDepth 20000 in
theorem ggL_law_X7_first : GoodIn wsL_law wsX7_first := goodIn_r _ [585, 32, 24, 552, 37, 476, 477, 2, 478, 556, 557, 558, 31, 559, 74, 560, 561, 562, 23, 563, 327, 328, 329, 330, 61, 535, 536, 537, 538, 454, 539, 586, 587, 588, 425, 426, 427, 564, 565, 566, 567, 568, 451, 452, 453, 62, 455, 456, 457, 458, 459, 460, 461, 462, 463, 846, 847, 848, 849, 850, 851, 852, 853, 854, 855, 909, 910, 911, 897, 898, 899, 900, 901, 902, 903, 904, 912, 913, 914, 915, 916, 917, 918, 919, 920] (by decide +kernel) (by decide +kernel)
set_option maxRecDepth 20000 in
theorem gL_law_X7_first : GoodIn wsL_law (wsV RL 63 RX7 yX7_first wsX7_first) := goodIn_app (goodIn_of _ (by decide +kernel)) ggL_law_X7_first
set_option maxRecDepth 20000 in
theorem ggL_law_X8_first : GoodIn wsL_law wsX8_first := goodIn_r _ [592, 115, 400, 401, 402, 143, 144, 5, 145, 574, 575, 576, 577, 399, 112, 593, 594, 595, 596, 121, 468, 469, 470, 471, 113, 110, 109, 108, 111, 856, 857, 858, 859, 860, 861, 862, 863, 864, 865, 866, 867, 868, 869, 870, 871, 872, 873, 874, 875, 876, 877, 878, 879, 880, 881, 882, 883, 884, 885, 886, 887, 888] (by decide +kernel) (by decide +kernel)
set_option maxRecDepth 20000 in
theorem gL_law_X8_first : GoodIn wsL_law (wsV RL 66 RX8 yX8_first wsX8_first) := goodIn_app (goodIn_of _ (by decide +kernel)) ggL_law_X8_first
set_option maxRecDepth 20000 in
theorem ggL_law_X7_rest : GoodIn wsL_law wsX7_rest := goodIn_r _ [600, 32, 24, 37, 556, 557, 558, 31, 559, 74, 560, 561, 562, 23, 563, 327, 328, 329, 330, 61, 601, 602, 603, 604, 605, 77, 606, 607, 608, 609, 610, 568, 451, 452, 453, 454, 62, 455, 456, 457, 426, 2, 427, 458, 459, 460, 461, 462, 463, 846, 847, 848, 849, 850, 851, 852, 853, 854, 855, 909, 910, 911, 897, 898, 899, 900, 901, 902, 903, 904, 912, 913, 914, 915, 916, 917, 918, 919, 920] (by decide +kernel) (by decide +kernel)
set_option maxRecDepth 20000 in
theorem gL_law_X7_rest : GoodIn wsL_law (wsV RL 67 RX7 yX7_rest wsX7_rest) := goodIn_app (goodIn_of _ (by decide +kernel)) ggL_law_X7_rest
set_option maxRecDepth 20000 in
theorem ggL_law_X8_rest : GoodIn wsL_law wsX8_rest := goodIn_r _ [614, 401, 402, 399, 116, 115, 400, 574, 575, 576, 5, 577, 112, 578, 579, 580, 581, 468, 469, 470, 471, 113, 110, 109, 108, 111, 856, 857, 858, 859, 860, 861, 862, 863, 864, 865, 866, 867, 868, 869, 870, 871, 872, 873, 874, 875, 876, 877, 878, 879, 880, 881, 882, 883, 884, 885, 886, 887, 888] (by decide +kernel) (by decide +kernel)
set_option maxRecDepth 20000 in
theorem gL_law_X8_rest : GoodIn wsL_law (wsV RL 70 RX8 yX8_rest wsX8_rest) := goodIn_app (goodIn_of _ (by decide +kernel)) ggL_law_X8_rest
