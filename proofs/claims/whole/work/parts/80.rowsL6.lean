set_option maxRecDepth 20000 in
theorem ggL_law_X8_harm : GoodIn wsL_law wsX8_harm := goodIn_r _ [692, 572, 693, 398, 431, 432, 433, 5, 434, 143, 144, 145, 694, 695, 696, 697, 115, 399, 400, 401, 573, 574, 575, 576, 112, 467, 468, 469, 470, 113, 110, 109, 108, 111, 855, 856, 857, 858, 859, 860, 861, 862, 863, 864, 865, 866, 867, 868, 869, 870, 871, 872, 873, 874, 875, 876, 877, 878, 879, 880, 881, 882, 883, 884, 885, 886, 887] (by decide +kernel) (by decide +kernel)
set_option maxRecDepth 20000 in
theorem gL_law_X8_harm : GoodIn wsL_law (wsV RL 87 RX8 yX8_harm wsX8_harm) := goodIn_app (goodIn_of _ (by decide +kernel)) ggL_law_X8_harm
set_option maxRecDepth 20000 in
theorem ggL_law_X7_saw : GoodIn wsL_law wsX7_saw := goodIn_r _ [701, 28, 158, 552, 553, 2, 554, 415, 416, 417, 418, 37, 419, 702, 703, 704, 27, 705, 706, 67, 68, 69, 845, 846, 847, 848, 849, 850, 851, 852, 853, 854, 904, 905, 906, 907, 911, 912, 913, 914, 915, 916, 917, 918, 919] (by decide +kernel) (by decide +kernel)
set_option maxRecDepth 20000 in
theorem gL_law_X7_saw : GoodIn wsL_law (wsV RL 88 RX7 yX7_saw wsX7_saw) := goodIn_app (goodIn_of _ (by decide +kernel)) ggL_law_X7_saw
set_option maxRecDepth 20000 in
theorem ggL_law_X8_saw : GoodIn wsL_law wsX8_saw := goodIn_r _ [710, 634, 711, 404, 117, 118, 119, 143, 144, 5, 145, 431, 432, 433, 434, 398, 855, 856, 857, 858, 859, 860, 861, 862, 863, 864, 865, 866, 867, 868, 869, 870, 871, 872, 873, 874, 875, 876, 877, 878, 879, 880, 881, 882, 883, 884, 885, 886, 887] (by decide +kernel) (by decide +kernel)
set_option maxRecDepth 20000 in
theorem gL_law_X8_saw : GoodIn wsL_law (wsV RL 91 RX8 yX8_saw wsX8_saw) := goodIn_app (goodIn_of _ (by decide +kernel)) ggL_law_X8_saw
set_option maxRecDepth 20000 in
theorem ggL_law_X7_forget : GoodIn wsL_law wsX7_forget := goodIn_r _ [715, 28, 158, 845, 846, 847, 848, 849, 850, 851, 852, 853, 854, 904, 905, 906, 907] (by decide +kernel) (by decide +kernel)
set_option maxRecDepth 20000 in
theorem gL_law_X7_forget : GoodIn wsL_law (wsV RL 92 RX7 yX7_forget wsX7_forget) := goodIn_app (goodIn_of _ (by decide +kernel)) ggL_law_X7_forget
set_option maxRecDepth 20000 in
theorem ggL_law_X8_forget : GoodIn wsL_law wsX8_forget := goodIn_r _ [719, 404, 855, 856, 857, 858, 859, 860, 861, 862, 863, 864, 865, 866, 867, 868, 869, 870, 871, 872, 873, 874, 875, 876, 877, 878, 879, 880, 881, 882, 883, 884, 885, 886, 887] (by decide +kernel) (by decide +kernel)
set_option maxRecDepth 20000 in
theorem gL_law_X8_forget : GoodIn wsL_law (wsV RL 95 RX8 yX8_forget wsX8_forget) := goodIn_app (goodIn_of _ (by decide +kernel)) ggL_law_X8_forget
set_option maxRecDepth 20000 in
theorem ggL_law_X7_holes : GoodIn wsL_law wsX7_holes := goodIn_r _ [723, 32, 639, 37, 415, 416, 417, 2, 418, 419, 640, 641, 642, 36, 643, 93, 98, 82, 83, 84, 85, 87, 88, 86, 724, 725, 726, 727, 28, 728, 729, 730, 31, 731, 74, 76, 732, 323, 324, 23, 325, 326, 327, 328, 329, 330, 61, 331, 733, 734, 735, 27, 736, 706, 67, 737, 304, 305, 306, 738, 739, 740, 741, 742, 68, 69, 567, 450, 451, 452, 453, 62, 454, 455, 456, 425, 426, 457, 458, 459, 460, 461, 462, 743, 744, 745, 746, 410, 845, 846, 847, 848, 849, 850, 851, 852, 853, 854, 908, 909, 910, 911, 912, 913, 914, 915, 916, 917, 918, 919, 896, 897, 898, 899, 900, 901, 902, 903, 904, 905, 906, 907] (by decide +kernel) (by decide +kernel)
set_option maxRecDepth 20000 in
theorem gL_law_X7_holes : GoodIn wsL_law (wsV RL 96 RX7 yX7_holes wsX7_holes) := goodIn_app (goodIn_of _ (by decide +kernel)) ggL_law_X7_holes
set_option maxRecDepth 20000 in
theorem ggL_law_X8_holes : GoodIn wsL_law wsX8_holes := goodIn_r _ [750, 398, 431, 432, 433, 5, 434, 143, 144, 145, 751, 752, 753, 754, 108, 755, 756, 757, 758, 115, 107, 404, 117, 118, 119, 467, 468, 469, 470, 113, 110, 109, 111, 855, 856, 857, 858, 859, 860, 861, 862, 863, 864, 865, 866, 867, 868, 869, 870, 871, 872, 873, 874, 875, 876, 877, 878, 879, 880, 881, 882, 883, 884, 885, 886, 887] (by decide +kernel) (by decide +kernel)
set_option maxRecDepth 20000 in
theorem gL_law_X8_holes : GoodIn wsL_law (wsV RL 99 RX8 yX8_holes wsX8_holes) := goodIn_app (goodIn_of _ (by decide +kernel)) ggL_law_X8_holes
