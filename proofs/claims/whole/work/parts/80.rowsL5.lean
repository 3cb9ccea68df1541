set_option maxRecDepth 20000 in
theorem ggL_law_X7_coolest : GoodIn wsL_law wsX7_coolest := goodIn_r _ [617, 37, 419, 32, 24, 552, 553, 2, 554, 475, 476, 477, 618, 619, 620, 31, 621, 74, 622, 604, 623, 556, 557, 558, 559, 560, 561, 23, 562, 326, 327, 328, 329, 61, 624, 564, 565, 566, 567, 450, 451, 452, 453, 62, 454, 455, 456, 425, 426, 457, 458, 459, 460, 461, 462, 625, 626, 627, 628, 629, 304, 305, 306, 845, 846, 847, 848, 849, 850, 851, 852, 853, 854, 911, 912, 913, 914, 915, 916, 917, 918, 919, 908, 909, 910, 896, 897, 898, 899, 900, 901, 902, 903] (by decide +kernel) (by decide +kernel)
set_option maxRecDepth 20000 in
theorem gL_law_X7_coolest : GoodIn wsL_law (wsV RL 71 RX7 yX7_coolest wsX7_coolest) := goodIn_app (goodIn_of _ (by decide +kernel)) ggL_law_X7_coolest
set_option maxRecDepth 20000 in
theorem ggL_law_X8_coolest : GoodIn wsL_law wsX8_coolest := goodIn_r _ [633, 634, 398, 401, 115, 143, 144, 5, 145, 573, 574, 575, 576, 112, 577, 578, 579, 580, 399, 467, 468, 469, 470, 113, 110, 109, 108, 111, 855, 856, 857, 858, 859, 860, 861, 862, 863, 864, 865, 866, 867, 868, 869, 870, 871, 872, 873, 874, 875, 876, 877, 878, 879, 880, 881, 882, 883, 884, 885, 886, 887] (by decide +kernel) (by decide +kernel)
set_option maxRecDepth 20000 in
theorem gL_law_X8_coolest : GoodIn wsL_law (wsV RL 74 RX8 yX8_coolest wsX8_coolest) := goodIn_app (goodIn_of _ (by decide +kernel)) ggL_law_X8_coolest
set_option maxRecDepth 20000 in
theorem ggL_law_X7_busy : GoodIn wsL_law wsX7_busy := goodIn_r _ [638, 32, 639, 37, 415, 416, 417, 2, 418, 419, 475, 476, 477, 640, 641, 642, 36, 643, 93, 98, 82, 83, 84, 85, 87, 88, 86, 644, 645, 646, 647, 412, 24, 486, 487, 488, 489, 490, 491, 492, 648, 649, 650, 31, 651, 74, 76, 623, 556, 557, 558, 559, 560, 561, 23, 562, 326, 327, 328, 329, 61, 567, 450, 451, 452, 453, 62, 454, 455, 456, 425, 426, 457, 458, 459, 460, 461, 462, 652, 535, 536, 537, 538, 845, 846, 847, 848, 849, 850, 851, 852, 853, 854, 908, 909, 910, 911, 912, 913, 914, 915, 916, 917, 918, 919, 896, 897, 898, 899, 900, 901, 902, 903] (by decide +kernel) (by decide +kernel)
set_option maxRecDepth 20000 in
theorem gL_law_X7_busy : GoodIn wsL_law (wsV RL 75 RX7 yX7_busy wsX7_busy) := goodIn_app (goodIn_of _ (by decide +kernel)) ggL_law_X7_busy
set_option maxRecDepth 20000 in
theorem ggL_law_X8_busy : GoodIn wsL_law wsX8_busy := goodIn_r _ [656, 110, 115, 399, 400, 401, 431, 432, 433, 5, 434, 398, 143, 144, 145, 573, 574, 575, 576, 112, 501, 502, 503, 467, 468, 469, 470, 113, 109, 108, 111, 592, 593, 594, 595, 121, 855, 856, 857, 858, 859, 860, 861, 862, 863, 864, 865, 866, 867, 868, 869, 870, 871, 872, 873, 874, 875, 876, 877, 878, 879, 880, 881, 882, 883, 884, 885, 886, 887] (by decide +kernel) (by decide +kernel)
set_option maxRecDepth 20000 in
theorem gL_law_X8_busy : GoodIn wsL_law (wsV RL 78 RX8 yX8_busy wsX8_busy) := goodIn_app (goodIn_of _ (by decide +kernel)) ggL_law_X8_busy
set_option maxRecDepth 20000 in
theorem ggL_law_X7_blanket : GoodIn wsL_law wsX7_blanket := goodIn_r _ [660, 37, 419, 415, 416, 417, 2, 418, 552, 553, 554, 661, 662, 663, 664, 24, 414, 32, 486, 487, 488, 489, 490, 491, 492, 665, 666, 667, 31, 668, 74, 669, 605, 623, 556, 557, 558, 559, 560, 561, 23, 562, 326, 327, 328, 329, 61, 624, 564, 565, 566, 567, 450, 451, 452, 453, 62, 454, 455, 456, 425, 426, 457, 458, 459, 460, 461, 462, 845, 846, 847, 848, 849, 850, 851, 852, 853, 854, 911, 912, 913, 914, 915, 916, 917, 918, 919, 896, 897, 898, 899, 900, 901, 902, 903, 908, 909, 910] (by decide +kernel) (by decide +kernel)
set_option maxRecDepth 20000 in
theorem gL_law_X7_blanket : GoodIn wsL_law (wsV RL 79 RX7 yX7_blanket wsX7_blanket) := goodIn_app (goodIn_of _ (by decide +kernel)) ggL_law_X7_blanket
set_option maxRecDepth 20000 in
theorem ggL_law_X8_blanket : GoodIn wsL_law wsX8_blanket := goodIn_r _ [673, 674, 634, 398, 401, 400, 115, 431, 432, 433, 5, 434, 143, 144, 145, 501, 502, 503, 573, 574, 575, 576, 112, 577, 578, 579, 580, 399, 467, 468, 469, 470, 113, 110, 109, 108, 111, 855, 856, 857, 858, 859, 860, 861, 862, 863, 864, 865, 866, 867, 868, 869, 870, 871, 872, 873, 874, 875, 876, 877, 878, 879, 880, 881, 882, 883, 884, 885, 886, 887] (by decide +kernel) (by decide +kernel)
set_option maxRecDepth 20000 in
theorem gL_law_X8_blanket : GoodIn wsL_law (wsV RL 83 RX8 yX8_blanket wsX8_blanket) := goodIn_app (goodIn_of _ (by decide +kernel)) ggL_law_X8_blanket
set_option maxRecDepth 20000 in
theorem ggL_law_X7_harm : GoodIn wsL_law wsX7_harm := goodIn_r _ [678, 679, 415, 416, 417, 2, 418, 37, 419, 680, 681, 682, 683, 684, 685, 686, 687, 32, 639, 24, 551, 688, 640, 641, 642, 36, 643, 93, 98, 82, 83, 84, 85, 87, 88, 86, 555, 556, 557, 31, 558, 74, 559, 560, 561, 23, 562, 326, 327, 328, 329, 61, 563, 564, 565, 566, 567, 450, 451, 452, 453, 62, 454, 455, 456, 425, 426, 457, 458, 459, 460, 461, 462, 530, 531, 532, 533, 845, 846, 847, 848, 849, 850, 851, 852, 853, 854, 911, 912, 913, 914, 915, 916, 917, 918, 919, 908, 909, 910, 896, 897, 898, 899, 900, 901, 902, 903] (by decide +kernel) (by decide +kernel)
set_option maxRecDepth 20000 in
theorem gL_law_X7_harm : GoodIn wsL_law (wsV RL 84 RX7 yX7_harm wsX7_harm) := goodIn_app (goodIn_of _ (by decide +kernel)) ggL_law_X7_harm
