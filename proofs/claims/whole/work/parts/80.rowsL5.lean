set_option maxRecDepth 20000 in
theorem ggL_law_X7_coolest : GoodIn wsL_law wsX7_coolest := goodIn_r _ [618, 37, 420, 32, 24, 553, 554, 2, 555, 476, 477, 478, 619, 620, 621, 31, 622, 74, 623, 605, 624, 557, 558, 559, 560, 561, 562, 23, 563, 327, 328, 329, 330, 61, 625, 565, 566, 567, 568, 451, 452, 453, 454, 62, 455, 456, 457, 426, 427, 458, 459, 460, 461, 462, 463, 626, 627, 628, 629, 630, 305, 306, 307, 846, 847, 848, 849, 850, 851, 852, 853, 854, 855, 912, 913, 914, 915, 916, 917, 918, 919, 920, 909, 910, 911, 897, 898, 899, 900, 901, 902, 903, 904] (by decide +kernel) (by decide +kernel)
set_option maxRecDepth 20000 in
theorem gL_law_X7_coolest : GoodIn wsL_law (wsV RL 71 RX7 yX7_coolest wsX7_coolest) := goodIn_app (goodIn_of _ (by decide +kernel)) ggL_law_X7_coolest
set_option maxRecDepth 20000 in
theorem ggL_law_X8_coolest : GoodIn wsL_law wsX8_coolest := goodIn_r _ [634, 635, 399, 402, 115, 143, 144, 5, 145, 574, 575, 576, 577, 112, 578, 579, 580, 581, 400, 468, 469, 470, 471, 113, 110, 109, 108, 111, 856, 857, 858, 859, 860, 861, 862, 863, 864, 865, 866, 867, 868, 869, 870, 871, 872, 873, 874, 875, 876, 877, 878, 879, 880, 881, 882, 883, 884, 885, 886, 887, 888] (by decide +kernel) (by decide +kernel)
set_option maxRecDepth 20000 in
theorem gL_law_X8_coolest : GoodIn wsL_law (wsV RL 74 RX8 yX8_coolest wsX8_coolest) := goodIn_app (goodIn_of _ (by decide +kernel)) ggL_law_X8_coolest
set_option maxRecDepth 20000 in
theorem ggL_law_X7_busy : GoodIn wsL_law wsX7_busy := goodIn_r _ [639, 32, 640, 37, 416, 417, 418, 2, 419, 420, 476, 477, 478, 641, 642, 643, 36, 644, 93, 98, 82, 83, 84, 85, 87, 88, 86, 645, 646, 647, 648, 413, 24, 487, 488, 489, 490, 491, 492, 493, 649, 650, 651, 31, 652, 74, 76, 624, 557, 558, 559, 560, 561, 562, 23, 563, 327, 328, 329, 330, 61, 568, 451, 452, 453, 454, 62, 455, 456, 457, 426, 427, 458, 459, 460, 461, 462, 463, 653, 536, 537, 538, 539, 846, 847, 848, 849, 850, 851, 852, 853, 854, 855, 909, 910, 911, 912, 913, 914, 915, 916, 917, 918, 919, 920, 897, 898, 899, 900, 901, 902, 903, 904] (by decide +kernel) (by decide +kernel)
set_option maxRecDepth 20000 in
theorem gL_law_X7_busy : GoodIn wsL_law (wsV RL 75 RX7 yX7_busy wsX7_busy) := goodIn_app (goodIn_of _ (by decide +kernel)) ggL_law_X7_busy
set_option maxRecDepth 20000 in
theorem ggL_law_X8_busy : GoodIn wsL_law wsX8_busy := goodIn_r _ [657, 110, 115, 400, 401, 402, 432, 433, 434, 5, 435, 399, 143, 144, 145, 574, 575, 576, 577, 112, 502, 503, 504, 468, 469, 470, 471, 113, 109, 108, 111, 593, 594, 595, 596, 121, 856, 857, 858, 859, 860, 861, 862, 863, 864, 865, 866, 867, 868, 869, 870, 871, 872, 873, 874, 875, 876, 877, 878, 879, 880, 881, 882, 883, 884, 885, 886, 887, 888] (by decide +kernel) (by decide +kernel)
set_option maxRecDepth 20000 in
theorem gL_law_X8_busy : GoodIn wsL_law (wsV RL 78 RX8 yX8_busy wsX8_busy) := goodIn_app (goodIn_of _ (by decide +kernel)) ggL_law_X8_busy
set_option maxRecDepth 20000 in
theorem ggL_law_X7_blanket : GoodIn wsL_law wsX7_blanket := goodIn_r _ [661, 37, 420, 416, 417, 418, 2, 419, 553, 554, 555, 662, 663, 664, 665, 24, 415, 32, 487, 488, 489, 490, 491, 492, 493, 666, 667, 668, 31, 669, 74, 670, 606, 624, 557, 558, 559, 560, 561, 562, 23, 563, 327, 328, 329, 330, 61, 625, 565, 566, 567, 568, 451, 452, 453, 454, 62, 455, 456, 457, 426, 427, 458, 459, 460, 461, 462, 463, 846, 847, 848, 849, 850, 851, 852, 853, 854, 855, 912, 913, 914, 915, 916, 917, 918, 919, 920, 897, 898, 899, 900, 901, 902, 903, 904, 909, 910, 911] (by decide +kernel) (by decide +kernel)
set_option maxRecDepth 20000 in
theorem gL_law_X7_blanket : GoodIn wsL_law (wsV RL 79 RX7 yX7_blanket wsX7_blanket) := goodIn_app (goodIn_of _ (by decide +kernel)) ggL_law_X7_blanket
set_option maxRecDepth 20000 in
theorem ggL_law_X8_blanket : GoodIn wsL_law wsX8_blanket := goodIn_r _ [674, 675, 635, 399, 402, 401, 115, 432, 433, 434, 5, 435, 143, 144, 145, 502, 503, 504, 574, 575, 576, 577, 112, 578, 579, 580, 581, 400, 468, 469, 470, 471, 113, 110, 109, 108, 111, 856, 857, 858, 859, 860, 861, 862, 863, 864, 865, 866, 867, 868, 869, 870, 871, 872, 873, 874, 875, 876, 877, 878, 879, 880, 881, 882, 883, 884, 885, 886, 887, 888] (by decide +kernel) (by decide +kernel)
set_option maxRecDepth 20000 in
theorem gL_law_X8_blanket : GoodIn wsL_law (wsV RL 83 RX8 yX8_blanket wsX8_blanket) := goodIn_app (goodIn_of _ (by decide +kernel)) ggL_law_X8_blanket
set_option maxRecDepth 20000 in
theorem ggL_law_X7_harm : GoodIn wsL_law wsX7_harm := goodIn_r _ [679, 680, 416, 417, 418, 2, 419, 37, 420, 681, 682, 683, 684, 685, 686, 687, 688, 32, 640, 24, 552, 689, 641, 642, 643, 36, 644, 93, 98, 82, 83, 84, 85, 87, 88, 86, 556, 557, 558, 31, 559, 74, 560, 561, 562, 23, 563, 327, 328, 329, 330, 61, 564, 565, 566, 567, 568, 451, 452, 453, 454, 62, 455, 456, 457, 426, 427, 458, 459, 460, 461, 462, 463, 531, 532, 533, 534, 846, 847, 848, 849, 850, 851, 852, 853, 854, 855, 912, 913, 914, 915, 916, 917, 918, 919, 920, 909, 910, 911, 897, 898, 899, 900, 901, 902, 903, 904] (by decide +kernel) (by decide +kernel)
set_option maxRecDepth 20000 in
theorem gL_law_X7_harm : GoodIn wsL_law (wsV RL 84 RX7 yX7_harm wsX7_harm) := goodIn_app (goodIn_of _ (by decide +kernel)) ggL_law_X7_harm
